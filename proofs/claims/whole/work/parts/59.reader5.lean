/-! the class: RulesReader, readBody, readRules -/
theorem PoD.v {a : Nat} {b : Nat → Int32} {n : Nat} {h h' : kx_Mem} {v : Option Value} {res : Fa ⊕ (RU × Nat)} (hq : PoD a b n h v h' res) : ∃ x : Int32, v = some (.int x) ∧ narrow .boolean (.int x) = .int x := by
  obtain ⟨-, h2⟩ := hq
  cases res with
  | inl f => exact ⟨0, h2.1, rfl⟩
  | inr q => exact ⟨1, h2.1, rfl⟩
theorem bodF_at (b : Nat → Int32) (n i : Nat) (r : RU) : bodF 0 b n i r = setF2 b n i r 0 0 1999 ∧ bodF 1 b n i r = dayF b n i r ∧ bodF 2 b n i r = chcF b n i r 3 nm1 ∧ bodF 3 b n i r = rteF b n i r ∧ bodF 4 b n i r = chcF b n i r 6 nm3 ∧ bodF 5 b n i r = setF2 b n i r 7 1 9999 ∧ bodF 6 b n i r = setF2 b n i r 8 0 10 ∧ bodF 7 b n i r = setF2 b n i r 9 0 1999 ∧ bodF 8 b n i r = setF2 b n i r 10 1 100 ∧ bodF 9 b n i r = ordF2 b n i r ∧ bodF 10 b n i r = wgF b n i r ∧ bodF 11 b n i r = neeF b n i r ∧ bodF 12 b n i r = musF b n i r ∧ bodF 13 b n i r = eitF b n i r := ⟨rfl, rfl, rfl, rfl, rfl, rfl, rfl, rfl, rfl, rfl, rfl, rfl, rfl, rfl⟩
theorem x_Re_body0 {l : Launch} {g : kx_G} {d : Nat} {h : kx_Mem} (a : Nat) (b : Nat → Int32) (n i : Nat) (r : RU) (hR : RD a b n i r h) : kx_Sp l g m_Re_readBody [.ref 3, .int 0] h (d + 7) 0 0 (fun v h' => PoD a b n h v h' (bodF 0 b n i r)) := by
  have hs := hR.1
  have hd := hR.2.2.2.2.1
  have ha := hR.2.2.2.2.2.1
  have hg := ha.g
  have hr := IsRu.of hs ha
  have hin := hR.2.2.1
  have ho := hR.2.2.2.2.2.2.1
  have oa := hr.2.2.2.2.2.2.2.2.2.2.2.2.2.2.2.2.2
  have o16 := ho.1
  refine kx_enter_e (lv := [_, _]) (by decide +kernel) (Nat.le_of_ble_eq_true rfl) rfl ?_
  refine kx_iload_n (pc := 0) (kx_dd d_Re_readBody 0 rfl) rfl rfl ?_
  refine kx_tableIn (pc := 1) (tgt := 72) (kx_dd d_Re_readBody 1 rfl) (by decide) (by decide) rfl rfl ?_
  refine kx_aload_n (pc := 72) (kx_dd d_Re_readBody 2 rfl) rfl rfl ?_
  refine kx_iconst (pc := 73) (v := 0) (kx_dd d_Re_readBody 3 rfl) rfl ?_
  refine kx_iconst (pc := 74) (v := 0) (kx_dd d_Re_readBody 4 rfl) rfl ?_
  refine kx_sipush (pc := 75) (v := 1999) (kx_dd d_Re_readBody 5 rfl) rfl ?_
  refine kx_invV (pc := 78) (a := 3) (as := [_, _, _]) (kx_dd d_Re_readBody 6 rfl) ⟨lk_Re_78, wi_Re_readSetting, we_Re_readSetting⟩ w_Re_readSetting (hs.k 3 rfl) rfl rfl rfl rfl (Nat.le_of_ble_eq_true rfl) (x_Re_readSetting (d := d + 2) a b n i r hR 0 0 1999 (by decide) (by omega) (by omega)) (Nat.le_refl _) ⟨Nat.le_refl _, Nat.le_refl _⟩ (fun v h' hq => ?_)
  revert h'
  intro h1 hq
  obtain ⟨x9, rfl, hnar⟩ := hq.v
  refine kx_zret (pc := 81) rfl hnar (kx_dd d_Re_readBody 7 rfl) (Nat.le_refl _) (Nat.le_refl _) ?_
  exact hq
theorem x_Re_body1 {l : Launch} {g : kx_G} {d : Nat} {h : kx_Mem} (a : Nat) (b : Nat → Int32) (n i : Nat) (r : RU) (hR : RD a b n i r h) : kx_Sp l g m_Re_readBody [.ref 3, .int 1] h (d + 7) 0 0 (fun v h' => PoD a b n h v h' (bodF 1 b n i r)) := by
  have hs := hR.1
  have hd := hR.2.2.2.2.1
  have ha := hR.2.2.2.2.2.1
  have hg := ha.g
  have hr := IsRu.of hs ha
  have hin := hR.2.2.1
  have ho := hR.2.2.2.2.2.2.1
  have oa := hr.2.2.2.2.2.2.2.2.2.2.2.2.2.2.2.2.2
  have o16 := ho.1
  refine kx_enter_e (lv := [_, _]) (by decide +kernel) (Nat.le_of_ble_eq_true rfl) rfl ?_
  refine kx_iload_n (pc := 0) (kx_dd d_Re_readBody 0 rfl) rfl rfl ?_
  refine kx_tableIn (pc := 1) (tgt := 82) (kx_dd d_Re_readBody 1 rfl) (by decide) (by decide) rfl rfl ?_
  refine kx_aload_n (pc := 82) (kx_dd d_Re_readBody 8 rfl) rfl rfl ?_
  refine kx_iconst (pc := 83) (v := 1) (kx_dd d_Re_readBody 9 rfl) rfl ?_
  refine kx_iconst (pc := 84) (v := 0) (kx_dd d_Re_readBody 10 rfl) rfl ?_
  refine kx_sipush (pc := 85) (v := 1999) (kx_dd d_Re_readBody 11 rfl) rfl ?_
  refine kx_invV (pc := 88) (a := 3) (as := [_, _, _]) (kx_dd d_Re_readBody 12 rfl) ⟨lk_Re_78, wi_Re_readSetting, we_Re_readSetting⟩ w_Re_readSetting (hs.k 3 rfl) rfl rfl rfl rfl (Nat.le_of_ble_eq_true rfl) (x_Re_readSetting (d := d + 2) a b n i r hR 1 0 1999 (by decide) (by decide) (by decide)) (Nat.le_refl _) ⟨Nat.le_refl _, Nat.le_refl _⟩ (fun v h' hq => ?_)
  revert h'
  intro h1 hq
  obtain ⟨hF1, hq1⟩ := hq
  unfold setF2 at hq1
  cases hN : numF b n i 0 1999 with
  | inl f =>
    rw [hN] at hq1
    obtain ⟨rfl, hfa⟩ := hq1
    refine kx_if_eq (pc := 91) (tgt := 118) (kx_dd d_Re_readBody 13 rfl) rfl (fun c91 => ?_) (fun c91 => ?_)
    · refine kx_iconst (pc := 118) (v := 0) (kx_dd d_Re_readBody 26 rfl) rfl ?_
      refine kx_zret (pc := 119) rfl rfl (kx_dd d_Re_readBody 27 rfl) (Nat.le_refl _) (Nat.le_refl _) ?_
      exact ⟨hF1, by show (match dayF b n i r with | .inl f => _ | .inr q => _); unfold dayF; rw [hN]; exact ⟨rfl, hfa⟩⟩
    · exact absurd rfl c91
  | inr q9 =>
    rw [hN] at hq1
    obtain ⟨rfl, hR1⟩ := hq1
    have hs := hR1.1
    have hd := hR1.2.2.2.2.1
    have hr := IsRu.of hs hR1.2.2.2.2.2.1
    refine kx_if_eq (pc := 91) (tgt := 118) (kx_dd d_Re_readBody 13 rfl) rfl (fun c91 => ?_) (fun c91 => ?_)
    · exact absurd c91 (by decide)
    · refine kx_aload_n (pc := 94) (kx_dd d_Re_readBody 14 rfl) rfl rfl ?_
      refine kx_iconst (pc := 95) (v := 2) (kx_dd d_Re_readBody 15 rfl) rfl ?_
      refine kx_aload_n (pc := 96) (kx_dd d_Re_readBody 16 rfl) rfl rfl ?_
      refine kx_getR (pc := 97) (b := a) fl_Re_12 (hs.k 3 rfl) rfl hd (kx_dd d_Re_readBody 17 rfl) ?_
      refine kx_getR (pc := 100) (b := (a + 1)) fl_Re_82 (congrArg Prod.fst hr.1) rfl (hr.2.2.2.2.2.2.2.2.2.1) (kx_dd d_Re_readBody 18 rfl) ?_
      refine kx_iconst (pc := 103) (v := 1) (kx_dd d_Re_readBody 19 rfl) rfl ?_
      refine kx_ialdn (pc := 104) 1 (hr.2.1) rfl (by decide) (by decide) (kx_dd d_Re_readBody 20 rfl) ?_
      rw [hR1.2.2.2.2.2.2.2.1.1 1 (by decide)]
      refine kx_sipush (pc := 105) (v := 1999) (kx_dd d_Re_readBody 21 rfl) rfl ?_
      refine kx_invV (pc := 108) (a := 3) (as := [_, _, _]) (kx_dd d_Re_readBody 22 rfl) ⟨lk_Re_78, wi_Re_readSetting, we_Re_readSetting⟩ w_Re_readSetting (hs.k 3 rfl) rfl rfl rfl rfl (Nat.le_of_ble_eq_true rfl) (x_Re_readSetting (d := d + 2) a b n q9.2 (ruSet r 1 (nI q9.1)) hR1 2 q9.1 1999 (by decide) (by have := (numF_ge hin hN).2.2.2; omega) (by decide)) (Nat.le_refl _) ⟨Nat.le_refl _, Nat.le_refl _⟩ (fun v h' hq => ?_)
      revert h'
      intro h2 hq
      obtain ⟨hF2, hq2⟩ := hq
      have edy : dayF b n i r = setF2 b n q9.2 (ruSet r 1 (nI q9.1)) 2 q9.1 1999 := by unfold dayF; rw [hN]
      cases hS : setF2 b n q9.2 (ruSet r 1 (nI q9.1)) 2 q9.1 1999 with
      | inl f =>
        rw [hS] at hq2
        obtain ⟨rfl, hfa⟩ := hq2
        refine kx_if_eq (pc := 111) (tgt := 118) (kx_dd d_Re_readBody 23 rfl) rfl (fun c111 => ?_) (fun c111 => ?_)
        · refine kx_iconst (pc := 118) (v := 0) (kx_dd d_Re_readBody 26 rfl) rfl ?_
          refine kx_zret (pc := 119) rfl rfl (kx_dd d_Re_readBody 27 rfl) (Nat.le_refl _) (Nat.le_refl _) ?_
          exact ⟨hF1.tr hF2, by show (match dayF b n i r with | .inl f => _ | .inr q => _); rw [edy, hS]; exact ⟨rfl, hfa⟩⟩
        · exact absurd rfl c111
      | inr z9 =>
        rw [hS] at hq2
        obtain ⟨rfl, hR2⟩ := hq2
        refine kx_if_eq (pc := 111) (tgt := 118) (kx_dd d_Re_readBody 23 rfl) rfl (fun c111 => ?_) (fun c111 => ?_)
        · exact absurd c111 (by decide)
        · refine kx_iconst (pc := 114) (v := 1) (kx_dd d_Re_readBody 24 rfl) rfl ?_
          refine kx_goto (pc := 115) (tgt := 119) (kx_dd d_Re_readBody 25 rfl) rfl ?_
          refine kx_zret (pc := 119) rfl rfl (kx_dd d_Re_readBody 27 rfl) (Nat.le_refl _) (Nat.le_refl _) ?_
          exact ⟨hF1.tr hF2, by show (match dayF b n i r with | .inl f => _ | .inr q => _); rw [edy, hS]; exact ⟨rfl, hR2⟩⟩
theorem x_Re_body2 {l : Launch} {g : kx_G} {d : Nat} {h : kx_Mem} (a : Nat) (b : Nat → Int32) (n i : Nat) (r : RU) (hR : RD a b n i r h) : kx_Sp l g m_Re_readBody [.ref 3, .int 2] h (d + 7) 0 0 (fun v h' => PoD a b n h v h' (bodF 2 b n i r)) := by
  have hs := hR.1
  have hd := hR.2.2.2.2.1
  have ha := hR.2.2.2.2.2.1
  have hg := ha.g
  have hr := IsRu.of hs ha
  have hin := hR.2.2.1
  have ho := hR.2.2.2.2.2.2.1
  have oa := hr.2.2.2.2.2.2.2.2.2.2.2.2.2.2.2.2.2
  have o16 := ho.1
  refine kx_enter_e (lv := [_, _]) (by decide +kernel) (Nat.le_of_ble_eq_true rfl) rfl ?_
  refine kx_iload_n (pc := 0) (kx_dd d_Re_readBody 0 rfl) rfl rfl ?_
  refine kx_tableIn (pc := 1) (tgt := 120) (kx_dd d_Re_readBody 1 rfl) (by decide) (by decide) rfl rfl ?_
  refine kx_aload_n (pc := 120) (kx_dd d_Re_readBody 28 rfl) rfl rfl ?_
  refine kx_iconst (pc := 121) (v := 3) (kx_dd d_Re_readBody 29 rfl) rfl ?_
  refine kx_ldcS (pc := 122) (k := 1) rfl rfl ks_1 (kx_dd d_Re_readBody 30 rfl) ?_
  refine kx_invV (pc := 124) (a := 3) (as := [_, _]) (kx_dd d_Re_readBody 31 rfl) ⟨lk_Re_88, wi_Re_readChoice, we_Re_readChoice⟩ w_Re_readChoice (hs.k 3 rfl) rfl rfl rfl rfl (Nat.le_of_ble_eq_true rfl) (x_Re_readChoice (d := d + 1) a b n i r hR (k := 1) (bs := [108, 111, 115, 115, 32, 102, 105, 108, 105, 110, 103, 32, 98, 111, 116, 104, 32, 97, 108, 119, 97, 121, 115]) rfl bk_1 nm1 (by decide) (fun w hw => am_1 w hw) 3 (by decide)) (Nat.le_refl _) ⟨Nat.le_refl _, Nat.le_refl _⟩ (fun v h' hq => ?_)
  revert h'
  intro h1 hq
  obtain ⟨x9, rfl, hnar⟩ := hq.v
  refine kx_zret (pc := 127) rfl hnar (kx_dd d_Re_readBody 32 rfl) (Nat.le_refl _) (Nat.le_refl _) ?_
  exact hq
theorem x_Re_body3 {l : Launch} {g : kx_G} {d : Nat} {h : kx_Mem} (a : Nat) (b : Nat → Int32) (n i : Nat) (r : RU) (hR : RD a b n i r h) : kx_Sp l g m_Re_readBody [.ref 3, .int 3] h (d + 7) 0 0 (fun v h' => PoD a b n h v h' (bodF 3 b n i r)) := by
  have hs := hR.1
  have hd := hR.2.2.2.2.1
  have ha := hR.2.2.2.2.2.1
  have hg := ha.g
  have hr := IsRu.of hs ha
  have hin := hR.2.2.1
  have ho := hR.2.2.2.2.2.2.1
  have oa := hr.2.2.2.2.2.2.2.2.2.2.2.2.2.2.2.2.2
  have o16 := ho.1
  refine kx_enter_e (lv := [_, _]) (by decide +kernel) (Nat.le_of_ble_eq_true rfl) rfl ?_
  refine kx_iload_n (pc := 0) (kx_dd d_Re_readBody 0 rfl) rfl rfl ?_
  refine kx_tableIn (pc := 1) (tgt := 128) (kx_dd d_Re_readBody 1 rfl) (by decide) (by decide) rfl rfl ?_
  refine kx_aload_n (pc := 128) (kx_dd d_Re_readBody 33 rfl) rfl rfl ?_
  refine kx_iconst (pc := 129) (v := 4) (kx_dd d_Re_readBody 34 rfl) rfl ?_
  refine kx_iconst (pc := 130) (v := 0) (kx_dd d_Re_readBody 35 rfl) rfl ?_
  refine kx_bipush (pc := 131) (v := 99) (kx_dd d_Re_readBody 36 rfl) rfl ?_
  refine kx_invV (pc := 133) (a := 3) (as := [_, _, _]) (kx_dd d_Re_readBody 37 rfl) ⟨lk_Re_78, wi_Re_readSetting, we_Re_readSetting⟩ w_Re_readSetting (hs.k 3 rfl) rfl rfl rfl rfl (Nat.le_of_ble_eq_true rfl) (x_Re_readSetting (d := d + 2) a b n i r hR 4 0 99 (by decide) (by decide) (by decide)) (Nat.le_refl _) ⟨Nat.le_refl _, Nat.le_refl _⟩ (fun v h' hq => ?_)
  revert h'
  intro h1 hq
  obtain ⟨hF1, hq1⟩ := hq
  unfold setF2 at hq1
  cases hN : numF b n i 0 99 with
  | inl f =>
    rw [hN] at hq1
    obtain ⟨rfl, hfa⟩ := hq1
    refine kx_if_eq (pc := 136) (tgt := 153) (kx_dd d_Re_readBody 38 rfl) rfl (fun c136 => ?_) (fun c136 => ?_)
    · refine kx_iconst (pc := 153) (v := 0) (kx_dd d_Re_readBody 46 rfl) rfl ?_
      refine kx_zret (pc := 154) rfl rfl (kx_dd d_Re_readBody 47 rfl) (Nat.le_refl _) (Nat.le_refl _) ?_
      exact ⟨hF1, by show (match rteF b n i r with | .inl f => _ | .inr q => _); unfold rteF; rw [hN]; exact ⟨rfl, hfa⟩⟩
    · exact absurd rfl c136
  | inr q9 =>
    rw [hN] at hq1
    obtain ⟨rfl, hR1⟩ := hq1
    have hs := hR1.1
    have hd := hR1.2.2.2.2.1
    have hr := IsRu.of hs hR1.2.2.2.2.2.1
    refine kx_if_eq (pc := 136) (tgt := 153) (kx_dd d_Re_readBody 38 rfl) rfl (fun c136 => ?_) (fun c136 => ?_)
    · exact absurd c136 (by decide)
    · refine kx_aload_n (pc := 139) (kx_dd d_Re_readBody 39 rfl) rfl rfl ?_
      refine kx_iconst (pc := 140) (v := 5) (kx_dd d_Re_readBody 40 rfl) rfl ?_
      refine kx_ldcS (pc := 141) (k := 2) rfl rfl ks_2 (kx_dd d_Re_readBody 41 rfl) ?_
      refine kx_invV (pc := 143) (a := 3) (as := [_, _]) (kx_dd d_Re_readBody 42 rfl) ⟨lk_Re_88, wi_Re_readChoice, we_Re_readChoice⟩ w_Re_readChoice (hs.k 3 rfl) rfl rfl rfl rfl (Nat.le_of_ble_eq_true rfl) (x_Re_readChoice (d := d + 1) a b n q9.2 (ruSet r 4 (nI q9.1)) hR1 (k := 2) (bs := [108, 111, 115, 115, 32, 102, 105, 108, 105, 110, 103]) rfl bk_2 nm2 (by decide) (fun w hw => am_2 w hw) 5 (by decide)) (Nat.le_refl _) ⟨Nat.le_refl _, Nat.le_refl _⟩ (fun v h' hq => ?_)
      revert h'
      intro h2 hq
      obtain ⟨hF2, hq2⟩ := hq
      have edy : rteF b n i r = chcF b n q9.2 (ruSet r 4 (nI q9.1)) 5 nm2 := by unfold rteF; rw [hN]
      cases hS : chcF b n q9.2 (ruSet r 4 (nI q9.1)) 5 nm2 with
      | inl f =>
        rw [hS] at hq2
        obtain ⟨rfl, hfa⟩ := hq2
        refine kx_if_eq (pc := 146) (tgt := 153) (kx_dd d_Re_readBody 43 rfl) rfl (fun c146 => ?_) (fun c146 => ?_)
        · refine kx_iconst (pc := 153) (v := 0) (kx_dd d_Re_readBody 46 rfl) rfl ?_
          refine kx_zret (pc := 154) rfl rfl (kx_dd d_Re_readBody 47 rfl) (Nat.le_refl _) (Nat.le_refl _) ?_
          exact ⟨hF1.tr hF2, by show (match rteF b n i r with | .inl f => _ | .inr q => _); rw [edy, hS]; exact ⟨rfl, hfa⟩⟩
        · exact absurd rfl c146
      | inr z9 =>
        rw [hS] at hq2
        obtain ⟨rfl, hR2⟩ := hq2
        refine kx_if_eq (pc := 146) (tgt := 153) (kx_dd d_Re_readBody 43 rfl) rfl (fun c146 => ?_) (fun c146 => ?_)
        · exact absurd c146 (by decide)
        · refine kx_iconst (pc := 149) (v := 1) (kx_dd d_Re_readBody 44 rfl) rfl ?_
          refine kx_goto (pc := 150) (tgt := 154) (kx_dd d_Re_readBody 45 rfl) rfl ?_
          refine kx_zret (pc := 154) rfl rfl (kx_dd d_Re_readBody 47 rfl) (Nat.le_refl _) (Nat.le_refl _) ?_
          exact ⟨hF1.tr hF2, by show (match rteF b n i r with | .inl f => _ | .inr q => _); rw [edy, hS]; exact ⟨rfl, hR2⟩⟩
theorem x_Re_body4 {l : Launch} {g : kx_G} {d : Nat} {h : kx_Mem} (a : Nat) (b : Nat → Int32) (n i : Nat) (r : RU) (hR : RD a b n i r h) : kx_Sp l g m_Re_readBody [.ref 3, .int 4] h (d + 7) 0 0 (fun v h' => PoD a b n h v h' (bodF 4 b n i r)) := by
  have hs := hR.1
  have hd := hR.2.2.2.2.1
  have ha := hR.2.2.2.2.2.1
  have hg := ha.g
  have hr := IsRu.of hs ha
  have hin := hR.2.2.1
  have ho := hR.2.2.2.2.2.2.1
  have oa := hr.2.2.2.2.2.2.2.2.2.2.2.2.2.2.2.2.2
  have o16 := ho.1
  refine kx_enter_e (lv := [_, _]) (by decide +kernel) (Nat.le_of_ble_eq_true rfl) rfl ?_
  refine kx_iload_n (pc := 0) (kx_dd d_Re_readBody 0 rfl) rfl rfl ?_
  refine kx_tableIn (pc := 1) (tgt := 155) (kx_dd d_Re_readBody 1 rfl) (by decide) (by decide) rfl rfl ?_
  refine kx_aload_n (pc := 155) (kx_dd d_Re_readBody 48 rfl) rfl rfl ?_
  refine kx_bipush (pc := 156) (v := 6) (kx_dd d_Re_readBody 49 rfl) rfl ?_
  refine kx_ldcS (pc := 158) (k := 3) rfl rfl ks_3 (kx_dd d_Re_readBody 50 rfl) ?_
  refine kx_invV (pc := 160) (a := 3) (as := [_, _]) (kx_dd d_Re_readBody 51 rfl) ⟨lk_Re_88, wi_Re_readChoice, we_Re_readChoice⟩ w_Re_readChoice (hs.k 3 rfl) rfl rfl rfl rfl (Nat.le_of_ble_eq_true rfl) (x_Re_readChoice (d := d + 1) a b n i r hR (k := 3) (bs := [108, 101, 97, 115, 116, 32, 109, 101, 97, 110, 32, 117, 109, 112, 105, 114, 101]) rfl bk_3 nm3 (by decide) (fun w hw => am_3 w hw) 6 (by decide)) (Nat.le_refl _) ⟨Nat.le_refl _, Nat.le_refl _⟩ (fun v h' hq => ?_)
  revert h'
  intro h1 hq
  obtain ⟨x9, rfl, hnar⟩ := hq.v
  refine kx_zret (pc := 163) rfl hnar (kx_dd d_Re_readBody 52 rfl) (Nat.le_refl _) (Nat.le_refl _) ?_
  exact hq
theorem x_Re_body5 {l : Launch} {g : kx_G} {d : Nat} {h : kx_Mem} (a : Nat) (b : Nat → Int32) (n i : Nat) (r : RU) (hR : RD a b n i r h) : kx_Sp l g m_Re_readBody [.ref 3, .int 5] h (d + 7) 0 0 (fun v h' => PoD a b n h v h' (bodF 5 b n i r)) := by
  have hs := hR.1
  have hd := hR.2.2.2.2.1
  have ha := hR.2.2.2.2.2.1
  have hg := ha.g
  have hr := IsRu.of hs ha
  have hin := hR.2.2.1
  have ho := hR.2.2.2.2.2.2.1
  have oa := hr.2.2.2.2.2.2.2.2.2.2.2.2.2.2.2.2.2
  have o16 := ho.1
  refine kx_enter_e (lv := [_, _]) (by decide +kernel) (Nat.le_of_ble_eq_true rfl) rfl ?_
  refine kx_iload_n (pc := 0) (kx_dd d_Re_readBody 0 rfl) rfl rfl ?_
  refine kx_tableIn (pc := 1) (tgt := 164) (kx_dd d_Re_readBody 1 rfl) (by decide) (by decide) rfl rfl ?_
  refine kx_aload_n (pc := 164) (kx_dd d_Re_readBody 53 rfl) rfl rfl ?_
  refine kx_bipush (pc := 165) (v := 7) (kx_dd d_Re_readBody 54 rfl) rfl ?_
  refine kx_iconst (pc := 167) (v := 1) (kx_dd d_Re_readBody 55 rfl) rfl ?_
  refine kx_sipush (pc := 168) (v := 9999) (kx_dd d_Re_readBody 56 rfl) rfl ?_
  refine kx_invV (pc := 171) (a := 3) (as := [_, _, _]) (kx_dd d_Re_readBody 57 rfl) ⟨lk_Re_78, wi_Re_readSetting, we_Re_readSetting⟩ w_Re_readSetting (hs.k 3 rfl) rfl rfl rfl rfl (Nat.le_of_ble_eq_true rfl) (x_Re_readSetting (d := d + 2) a b n i r hR 7 1 9999 (by decide) (by omega) (by omega)) (Nat.le_refl _) ⟨Nat.le_refl _, Nat.le_refl _⟩ (fun v h' hq => ?_)
  revert h'
  intro h1 hq
  obtain ⟨x9, rfl, hnar⟩ := hq.v
  refine kx_zret (pc := 174) rfl hnar (kx_dd d_Re_readBody 58 rfl) (Nat.le_refl _) (Nat.le_refl _) ?_
  exact hq
theorem x_Re_body6 {l : Launch} {g : kx_G} {d : Nat} {h : kx_Mem} (a : Nat) (b : Nat → Int32) (n i : Nat) (r : RU) (hR : RD a b n i r h) : kx_Sp l g m_Re_readBody [.ref 3, .int 6] h (d + 7) 0 0 (fun v h' => PoD a b n h v h' (bodF 6 b n i r)) := by
  have hs := hR.1
  have hd := hR.2.2.2.2.1
  have ha := hR.2.2.2.2.2.1
  have hg := ha.g
  have hr := IsRu.of hs ha
  have hin := hR.2.2.1
  have ho := hR.2.2.2.2.2.2.1
  have oa := hr.2.2.2.2.2.2.2.2.2.2.2.2.2.2.2.2.2
  have o16 := ho.1
  refine kx_enter_e (lv := [_, _]) (by decide +kernel) (Nat.le_of_ble_eq_true rfl) rfl ?_
  refine kx_iload_n (pc := 0) (kx_dd d_Re_readBody 0 rfl) rfl rfl ?_
  refine kx_tableIn (pc := 1) (tgt := 175) (kx_dd d_Re_readBody 1 rfl) (by decide) (by decide) rfl rfl ?_
  refine kx_aload_n (pc := 175) (kx_dd d_Re_readBody 59 rfl) rfl rfl ?_
  refine kx_bipush (pc := 176) (v := 8) (kx_dd d_Re_readBody 60 rfl) rfl ?_
  refine kx_iconst (pc := 178) (v := 0) (kx_dd d_Re_readBody 61 rfl) rfl ?_
  refine kx_bipush (pc := 179) (v := 10) (kx_dd d_Re_readBody 62 rfl) rfl ?_
  refine kx_invV (pc := 181) (a := 3) (as := [_, _, _]) (kx_dd d_Re_readBody 63 rfl) ⟨lk_Re_78, wi_Re_readSetting, we_Re_readSetting⟩ w_Re_readSetting (hs.k 3 rfl) rfl rfl rfl rfl (Nat.le_of_ble_eq_true rfl) (x_Re_readSetting (d := d + 2) a b n i r hR 8 0 10 (by decide) (by omega) (by omega)) (Nat.le_refl _) ⟨Nat.le_refl _, Nat.le_refl _⟩ (fun v h' hq => ?_)
  revert h'
  intro h1 hq
  obtain ⟨x9, rfl, hnar⟩ := hq.v
  refine kx_zret (pc := 184) rfl hnar (kx_dd d_Re_readBody 64 rfl) (Nat.le_refl _) (Nat.le_refl _) ?_
  exact hq
theorem x_Re_body7 {l : Launch} {g : kx_G} {d : Nat} {h : kx_Mem} (a : Nat) (b : Nat → Int32) (n i : Nat) (r : RU) (hR : RD a b n i r h) : kx_Sp l g m_Re_readBody [.ref 3, .int 7] h (d + 7) 0 0 (fun v h' => PoD a b n h v h' (bodF 7 b n i r)) := by
  have hs := hR.1
  have hd := hR.2.2.2.2.1
  have ha := hR.2.2.2.2.2.1
  have hg := ha.g
  have hr := IsRu.of hs ha
  have hin := hR.2.2.1
  have ho := hR.2.2.2.2.2.2.1
  have oa := hr.2.2.2.2.2.2.2.2.2.2.2.2.2.2.2.2.2
  have o16 := ho.1
  refine kx_enter_e (lv := [_, _]) (by decide +kernel) (Nat.le_of_ble_eq_true rfl) rfl ?_
  refine kx_iload_n (pc := 0) (kx_dd d_Re_readBody 0 rfl) rfl rfl ?_
  refine kx_tableIn (pc := 1) (tgt := 185) (kx_dd d_Re_readBody 1 rfl) (by decide) (by decide) rfl rfl ?_
  refine kx_aload_n (pc := 185) (kx_dd d_Re_readBody 65 rfl) rfl rfl ?_
  refine kx_bipush (pc := 186) (v := 9) (kx_dd d_Re_readBody 66 rfl) rfl ?_
  refine kx_iconst (pc := 188) (v := 0) (kx_dd d_Re_readBody 67 rfl) rfl ?_
  refine kx_sipush (pc := 189) (v := 1999) (kx_dd d_Re_readBody 68 rfl) rfl ?_
  refine kx_invV (pc := 192) (a := 3) (as := [_, _, _]) (kx_dd d_Re_readBody 69 rfl) ⟨lk_Re_78, wi_Re_readSetting, we_Re_readSetting⟩ w_Re_readSetting (hs.k 3 rfl) rfl rfl rfl rfl (Nat.le_of_ble_eq_true rfl) (x_Re_readSetting (d := d + 2) a b n i r hR 9 0 1999 (by decide) (by omega) (by omega)) (Nat.le_refl _) ⟨Nat.le_refl _, Nat.le_refl _⟩ (fun v h' hq => ?_)
  revert h'
  intro h1 hq
  obtain ⟨x9, rfl, hnar⟩ := hq.v
  refine kx_zret (pc := 195) rfl hnar (kx_dd d_Re_readBody 70 rfl) (Nat.le_refl _) (Nat.le_refl _) ?_
  exact hq
theorem x_Re_body8 {l : Launch} {g : kx_G} {d : Nat} {h : kx_Mem} (a : Nat) (b : Nat → Int32) (n i : Nat) (r : RU) (hR : RD a b n i r h) : kx_Sp l g m_Re_readBody [.ref 3, .int 8] h (d + 7) 0 0 (fun v h' => PoD a b n h v h' (bodF 8 b n i r)) := by
  have hs := hR.1
  have hd := hR.2.2.2.2.1
  have ha := hR.2.2.2.2.2.1
  have hg := ha.g
  have hr := IsRu.of hs ha
  have hin := hR.2.2.1
  have ho := hR.2.2.2.2.2.2.1
  have oa := hr.2.2.2.2.2.2.2.2.2.2.2.2.2.2.2.2.2
  have o16 := ho.1
  refine kx_enter_e (lv := [_, _]) (by decide +kernel) (Nat.le_of_ble_eq_true rfl) rfl ?_
  refine kx_iload_n (pc := 0) (kx_dd d_Re_readBody 0 rfl) rfl rfl ?_
  refine kx_tableIn (pc := 1) (tgt := 196) (kx_dd d_Re_readBody 1 rfl) (by decide) (by decide) rfl rfl ?_
  refine kx_aload_n (pc := 196) (kx_dd d_Re_readBody 71 rfl) rfl rfl ?_
  refine kx_bipush (pc := 197) (v := 10) (kx_dd d_Re_readBody 72 rfl) rfl ?_
  refine kx_iconst (pc := 199) (v := 1) (kx_dd d_Re_readBody 73 rfl) rfl ?_
  refine kx_bipush (pc := 200) (v := 100) (kx_dd d_Re_readBody 74 rfl) rfl ?_
  refine kx_invV (pc := 202) (a := 3) (as := [_, _, _]) (kx_dd d_Re_readBody 75 rfl) ⟨lk_Re_78, wi_Re_readSetting, we_Re_readSetting⟩ w_Re_readSetting (hs.k 3 rfl) rfl rfl rfl rfl (Nat.le_of_ble_eq_true rfl) (x_Re_readSetting (d := d + 2) a b n i r hR 10 1 100 (by decide) (by omega) (by omega)) (Nat.le_refl _) ⟨Nat.le_refl _, Nat.le_refl _⟩ (fun v h' hq => ?_)
  revert h'
  intro h1 hq
  obtain ⟨x9, rfl, hnar⟩ := hq.v
  refine kx_zret (pc := 205) rfl hnar (kx_dd d_Re_readBody 76 rfl) (Nat.le_refl _) (Nat.le_refl _) ?_
  exact hq
theorem x_Re_body9 {l : Launch} {g : kx_G} {d : Nat} {h : kx_Mem} (a : Nat) (b : Nat → Int32) (n i : Nat) (r : RU) (hR : RD a b n i r h) (hO : (9 : Nat) = 9 → ∀ k, k < 4 → ruO r k = k) : kx_Sp l g m_Re_readBody [.ref 3, .int 9] h (d + 7) 0 0 (fun v h' => PoD a b n h v h' (bodF 9 b n i r)) := by
  have hs := hR.1
  have hd := hR.2.2.2.2.1
  have ha := hR.2.2.2.2.2.1
  have hg := ha.g
  have hr := IsRu.of hs ha
  have hin := hR.2.2.1
  have ho := hR.2.2.2.2.2.2.1
  have oa := hr.2.2.2.2.2.2.2.2.2.2.2.2.2.2.2.2.2
  have o16 := ho.1
  refine kx_enter_e (lv := [_, _]) (by decide +kernel) (Nat.le_of_ble_eq_true rfl) rfl ?_
  refine kx_iload_n (pc := 0) (kx_dd d_Re_readBody 0 rfl) rfl rfl ?_
  refine kx_tableIn (pc := 1) (tgt := 206) (kx_dd d_Re_readBody 1 rfl) (by decide) (by decide) rfl rfl ?_
  refine kx_aload_n (pc := 206) (kx_dd d_Re_readBody 77 rfl) rfl rfl ?_
  refine kx_invV (pc := 207) (a := 3) (as := []) (kx_dd d_Re_readBody 78 rfl) ⟨lk_Re_96, wi_Re_readOrder, we_Re_readOrder⟩ w_Re_readOrder (hs.k 3 rfl) rfl rfl rfl rfl (Nat.le_of_ble_eq_true rfl) (x_Re_readOrder (d := d) a b n i r hR (hO rfl)) (Nat.le_refl _) ⟨Nat.le_refl _, Nat.le_refl _⟩ (fun v h' hq => ?_)
  revert h'
  intro h1 hq
  obtain ⟨x9, rfl, hnar⟩ := hq.v
  refine kx_zret (pc := 210) rfl hnar (kx_dd d_Re_readBody 79 rfl) (Nat.le_refl _) (Nat.le_refl _) ?_
  exact hq
theorem x_Re_body10 {l : Launch} {g : kx_G} {d : Nat} {h : kx_Mem} (a : Nat) (b : Nat → Int32) (n i : Nat) (r : RU) (hR : RD a b n i r h) : kx_Sp l g m_Re_readBody [.ref 3, .int 10] h (d + 7) 0 0 (fun v h' => PoD a b n h v h' (bodF 10 b n i r)) := by
  have hs := hR.1
  have hd := hR.2.2.2.2.1
  have ha := hR.2.2.2.2.2.1
  have hg := ha.g
  have hr := IsRu.of hs ha
  have hin := hR.2.2.1
  have ho := hR.2.2.2.2.2.2.1
  have oa := hr.2.2.2.2.2.2.2.2.2.2.2.2.2.2.2.2.2
  have o16 := ho.1
  refine kx_enter_e (lv := [_, _]) (by decide +kernel) (Nat.le_of_ble_eq_true rfl) rfl ?_
  refine kx_iload_n (pc := 0) (kx_dd d_Re_readBody 0 rfl) rfl rfl ?_
  refine kx_tableIn (pc := 1) (tgt := 211) (kx_dd d_Re_readBody 1 rfl) (by decide) (by decide) rfl rfl ?_
  refine kx_aload_n (pc := 211) (kx_dd d_Re_readBody 80 rfl) rfl rfl ?_
  refine kx_invV (pc := 212) (a := 3) (as := []) (kx_dd d_Re_readBody 81 rfl) ⟨lk_Re_99, wi_Re_readWeigh, we_Re_readWeigh⟩ w_Re_readWeigh (hs.k 3 rfl) rfl rfl rfl rfl (Nat.le_of_ble_eq_true rfl) (x_Re_readWeigh (d := d + 2) a b n i r hR) (Nat.le_refl _) ⟨Nat.le_refl _, Nat.le_refl _⟩ (fun v h' hq => ?_)
  revert h'
  intro h1 hq
  obtain ⟨x9, rfl, hnar⟩ := hq.v
  refine kx_zret (pc := 215) rfl hnar (kx_dd d_Re_readBody 82 rfl) (Nat.le_refl _) (Nat.le_refl _) ?_
  exact hq
theorem x_Re_body11 {l : Launch} {g : kx_G} {d : Nat} {h : kx_Mem} (a : Nat) (b : Nat → Int32) (n i : Nat) (r : RU) (hR : RD a b n i r h) (hf11 : (11 : Nat) = 11 → ruN r < 10) : kx_Sp l g m_Re_readBody [.ref 3, .int 11] h (d + 7) 0 0 (fun v h' => PoD a b n h v h' (bodF 11 b n i r)) := by
  have hs := hR.1
  have hd := hR.2.2.2.2.1
  have ha := hR.2.2.2.2.2.1
  have hg := ha.g
  have hr := IsRu.of hs ha
  have hin := hR.2.2.1
  have ho := hR.2.2.2.2.2.2.1
  have oa := hr.2.2.2.2.2.2.2.2.2.2.2.2.2.2.2.2.2
  have o16 := ho.1
  refine kx_enter_e (lv := [_, _]) (by decide +kernel) (Nat.le_of_ble_eq_true rfl) rfl ?_
  refine kx_iload_n (pc := 0) (kx_dd d_Re_readBody 0 rfl) rfl rfl ?_
  refine kx_tableIn (pc := 1) (tgt := 216) (kx_dd d_Re_readBody 1 rfl) (by decide) (by decide) rfl rfl ?_
  refine kx_aload_n (pc := 216) (kx_dd d_Re_readBody 83 rfl) rfl rfl ?_
  refine kx_invV (pc := 217) (a := 3) (as := []) (kx_dd d_Re_readBody 84 rfl) ⟨lk_Re_102, wi_Re_readNeed, we_Re_readNeed⟩ w_Re_readNeed (hs.k 3 rfl) rfl rfl rfl rfl (Nat.le_of_ble_eq_true rfl) (x_Re_readNeed (d := d + 2) a b n i r hR (hf11 rfl)) (Nat.le_refl _) ⟨Nat.le_refl _, Nat.le_refl _⟩ (fun v h' hq => ?_)
  revert h'
  intro h1 hq
  obtain ⟨x9, rfl, hnar⟩ := hq.v
  refine kx_zret (pc := 220) rfl hnar (kx_dd d_Re_readBody 85 rfl) (Nat.le_refl _) (Nat.le_refl _) ?_
  exact hq
theorem x_Re_body12 {l : Launch} {g : kx_G} {d : Nat} {h : kx_Mem} (a : Nat) (b : Nat → Int32) (n i : Nat) (r : RU) (hR : RD a b n i r h) (hf12 : (12 : Nat) = 12 → (ruM r).length < 10) : kx_Sp l g m_Re_readBody [.ref 3, .int 12] h (d + 7) 0 0 (fun v h' => PoD a b n h v h' (bodF 12 b n i r)) := by
  have hs := hR.1
  have hd := hR.2.2.2.2.1
  have ha := hR.2.2.2.2.2.1
  have hg := ha.g
  have hr := IsRu.of hs ha
  have hin := hR.2.2.1
  have ho := hR.2.2.2.2.2.2.1
  have oa := hr.2.2.2.2.2.2.2.2.2.2.2.2.2.2.2.2.2
  have o16 := ho.1
  refine kx_enter_e (lv := [_, _]) (by decide +kernel) (Nat.le_of_ble_eq_true rfl) rfl ?_
  refine kx_iload_n (pc := 0) (kx_dd d_Re_readBody 0 rfl) rfl rfl ?_
  refine kx_tableIn (pc := 1) (tgt := 221) (kx_dd d_Re_readBody 1 rfl) (by decide) (by decide) rfl rfl ?_
  refine kx_aload_n (pc := 221) (kx_dd d_Re_readBody 86 rfl) rfl rfl ?_
  refine kx_invV (pc := 222) (a := 3) (as := []) (kx_dd d_Re_readBody 87 rfl) ⟨lk_Re_105, wi_Re_readMust, we_Re_readMust⟩ w_Re_readMust (hs.k 3 rfl) rfl rfl rfl rfl (Nat.le_of_ble_eq_true rfl) (x_Re_readMust (d := d + 1) a b n i r hR (hf12 rfl)) (Nat.le_refl _) ⟨Nat.le_refl _, Nat.le_refl _⟩ (fun v h' hq => ?_)
  revert h'
  intro h1 hq
  obtain ⟨x9, rfl, hnar⟩ := hq.v
  refine kx_zret (pc := 225) rfl hnar (kx_dd d_Re_readBody 88 rfl) (Nat.le_refl _) (Nat.le_refl _) ?_
  exact hq
theorem x_Re_body13 {l : Launch} {g : kx_G} {d : Nat} {h : kx_Mem} (a : Nat) (b : Nat → Int32) (n i : Nat) (r : RU) (hR : RD a b n i r h) (hf13 : (13 : Nat) = 13 → (ruE r).length < 10) : kx_Sp l g m_Re_readBody [.ref 3, .int 13] h (d + 7) 0 0 (fun v h' => PoD a b n h v h' (bodF 13 b n i r)) := by
  have hs := hR.1
  have hd := hR.2.2.2.2.1
  have ha := hR.2.2.2.2.2.1
  have hg := ha.g
  have hr := IsRu.of hs ha
  have hin := hR.2.2.1
  have ho := hR.2.2.2.2.2.2.1
  have oa := hr.2.2.2.2.2.2.2.2.2.2.2.2.2.2.2.2.2
  have o16 := ho.1
  refine kx_enter_e (lv := [_, _]) (by decide +kernel) (Nat.le_of_ble_eq_true rfl) rfl ?_
  refine kx_iload_n (pc := 0) (kx_dd d_Re_readBody 0 rfl) rfl rfl ?_
  refine kx_tableIn (pc := 1) (tgt := 226) (kx_dd d_Re_readBody 1 rfl) (by decide) (by decide) rfl rfl ?_
  refine kx_aload_n (pc := 226) (kx_dd d_Re_readBody 89 rfl) rfl rfl ?_
  refine kx_invV (pc := 227) (a := 3) (as := []) (kx_dd d_Re_readBody 90 rfl) ⟨lk_Re_108, wi_Re_readEither, we_Re_readEither⟩ w_Re_readEither (hs.k 3 rfl) rfl rfl rfl rfl (Nat.le_of_ble_eq_true rfl) (x_Re_readEither (d := d + 1) a b n i r hR (hf13 rfl)) (Nat.le_refl _) ⟨Nat.le_refl _, Nat.le_refl _⟩ (fun v h' hq => ?_)
  revert h'
  intro h1 hq
  obtain ⟨x9, rfl, hnar⟩ := hq.v
  refine kx_zret (pc := 230) rfl hnar (kx_dd d_Re_readBody 91 rfl) (Nat.le_refl _) (Nat.le_refl _) ?_
  exact hq
theorem x_Re_readBody {l : Launch} {g : kx_G} {d : Nat} {h : kx_Mem} (a : Nat) (b : Nat → Int32) (n i : Nat) (r : RU) (hR : RD a b n i r h) (c : Nat) (hc : c < 14) (hO : c = 9 → ∀ k, k < 4 → ruO r k = k) (hfu : ¬ fulP r c) : kx_Sp l g m_Re_readBody [.ref 3, .int (nI c)] h (d + 7) 0 0 (fun v h' => PoD a b n h v h' (bodF c b n i r)) := by
  match c, hc with
  | 0, _ => exact x_Re_body0 a b n i r hR
  | 1, _ => exact x_Re_body1 a b n i r hR
  | 2, _ => exact x_Re_body2 a b n i r hR
  | 3, _ => exact x_Re_body3 a b n i r hR
  | 4, _ => exact x_Re_body4 a b n i r hR
  | 5, _ => exact x_Re_body5 a b n i r hR
  | 6, _ => exact x_Re_body6 a b n i r hR
  | 7, _ => exact x_Re_body7 a b n i r hR
  | 8, _ => exact x_Re_body8 a b n i r hR
  | 9, _ => exact x_Re_body9 a b n i r hR hO
  | 10, _ => exact x_Re_body10 a b n i r hR
  | 11, _ => exact x_Re_body11 a b n i r hR (fun _ => Nat.lt_of_not_le (fun z => hfu (Or.inl ⟨rfl, z⟩)))
  | 12, _ => exact x_Re_body12 a b n i r hR (fun _ => Nat.lt_of_not_le (fun z => hfu (Or.inr (Or.inl ⟨rfl, z⟩))))
  | 13, _ => exact x_Re_body13 a b n i r hR (fun _ => Nat.lt_of_not_le (fun z => hfu (Or.inr (Or.inr ⟨rfl, z⟩))))
  | m + 14, hc => exact absurd hc (by omega)
