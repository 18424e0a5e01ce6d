/-! the class: RulesReader.readRules -/
theorem kdF_O {b : Nat → Int32} {n i : Nat} {r : RU} {q : Nat × RU × Nat} (h : kdF b n i r = .inr q) : ruO q.2.1 = ruO r := by
  unfold kdF at h
  split at h
  · split at h
    · cases h; rfl
    · split at h
      · cases h
      · cases h; rfl
  · cases h
theorem bodF_O {c : Nat} {b : Nat → Int32} {n i : Nat} {r : RU} {q : RU × Nat} (hc : c ≠ 9) (h : bodF c b n i r = .inr q) : ruO q.1 = ruO r := by
  have hs : ∀ s lo hi, setF2 b n i r s lo hi = .inr q → ruO q.1 = ruO r := by
    intro s lo hi h
    unfold setF2 at h
    cases hN : numF b n i lo hi with
    | inl f => rw [hN] at h; cases h
    | inr z => rw [hN] at h; cases h; rfl
  have hch : ∀ s nm, chcF b n i r s nm = .inr q → ruO q.1 = ruO r := by
    intro s nm h
    unfold chcF at h
    cases hN : chO b n i nm with
    | none => rw [hN] at h; cases h
    | some z => rw [hN] at h; cases h; rfl
  unfold bodF at h
  by_cases e0 : c = 0
  · rw [if_pos e0] at h; exact hs _ _ _ h
  rw [if_neg e0] at h
  by_cases e1 : c = 1
  · rw [if_pos e1] at h
    unfold dayF setF2 at h
    cases hN : numF b n i 0 1999 with
    | inl f => rw [hN] at h; cases h
    | inr z =>
      rw [hN] at h
      simp only at h
      cases hN2 : numF b n z.2 z.1 1999 with
      | inl f => rw [hN2] at h; cases h
      | inr y => rw [hN2] at h; cases h; rfl
  rw [if_neg e1] at h
  by_cases e2 : c = 2
  · rw [if_pos e2] at h; exact hch _ _ h
  rw [if_neg e2] at h
  by_cases e3 : c = 3
  · rw [if_pos e3] at h
    unfold rteF chcF at h
    cases hN : numF b n i 0 99 with
    | inl f => rw [hN] at h; cases h
    | inr z =>
      rw [hN] at h
      simp only at h
      cases hN2 : chO b n z.2 nm2 with
      | none => rw [hN2] at h; cases h
      | some y => rw [hN2] at h; cases h; rfl
  rw [if_neg e3] at h
  by_cases e4 : c = 4
  · rw [if_pos e4] at h; exact hch _ _ h
  rw [if_neg e4] at h
  by_cases e5 : c = 5
  · rw [if_pos e5] at h; exact hs _ _ _ h
  rw [if_neg e5] at h
  by_cases e6 : c = 6
  · rw [if_pos e6] at h; exact hs _ _ _ h
  rw [if_neg e6] at h
  by_cases e7 : c = 7
  · rw [if_pos e7] at h; exact hs _ _ _ h
  rw [if_neg e7] at h
  by_cases e8 : c = 8
  · rw [if_pos e8] at h; exact hs _ _ _ h
  rw [if_neg e8, if_neg hc] at h
  by_cases e10 : c = 10
  · rw [if_pos e10] at h
    unfold wgF at h
    split at h
    · cases h
    · cases hK : kdF b n i r with
      | inl f => rw [hK] at h; cases h
      | inr z =>
        rw [hK] at h
        simp only at h
        cases hN : numF b n z.2.2 1 99 with
        | inl f => rw [hN] at h; cases h
        | inr y => rw [hN] at h; cases h; exact kdF_O hK
  rw [if_neg e10] at h
  by_cases e11 : c = 11
  · rw [if_pos e11] at h
    unfold neeF at h
    split at h
    · split at h
      · cases hN : numF b n (tE b n i) 0 999 with
        | inl f => rw [hN] at h; cases h
        | inr y => rw [hN] at h; cases h; rfl
      · cases h
    · cases h
  rw [if_neg e11] at h
  by_cases e12 : c = 12
  · rw [if_pos e12] at h
    unfold musF at h
    split at h
    · cases hK : kdF b n (tE b n i) r with
      | inl f => rw [hK] at h; cases h
      | inr z => rw [hK] at h; cases h; exact kdF_O hK
    · cases h
  rw [if_neg e12] at h
  unfold eitF at h
  split at h
  · cases hK : kdF b n (tE b n i) r with
    | inl f => rw [hK] at h; cases h
    | inr z =>
      rw [hK] at h
      simp only at h
      cases hK2 : kdF b n z.2.2 z.2.1 with
      | inl f => rw [hK2] at h; cases h
      | inr y => rw [hK2] at h; cases h; exact (kdF_O hK2).trans (kdF_O hK)
  · cases h
theorem bit_or9 {td c : Nat} (h : bitN (td ||| 2 ^ c) 9 = 0) : bitN td 9 = 0 ∧ c ≠ 9 := by
  have e : ∀ m, bitN m 9 = 0 ↔ m.testBit 9 = false := by
    intro m
    rw [Nat.testBit_eq_decide_div_mod_eq]
    unfold bitN
    simp only [decide_eq_false_iff_not]
    omega
  rw [e, Nat.testBit_or, Bool.or_eq_false_iff, Nat.testBit_two_pow] at h
  exact ⟨(e td).mpr h.1, fun z => by simp [z] at h⟩
def PoR (a : Nat) (h : kx_Mem) (v : Option Value) (h' : kx_Mem) (res : Fa ⊕ (RU × Nat)) : Prop := kx_Fe a h h' ∧ match res with
  | .inl f => v = some (.int (-1)) ∧ FaQ f h'
  | .inr q => v = some (.int (nI q.2)) ∧ RUok q.1 ∧ RUc q.1 a h' ∧ h'.1 3 3 = 0 ∧ h'.1 3 4 = -1
theorem x_Re_loop {l : Launch} {g : kx_G} {d : Nat} {h0 : kx_Mem} (a : Nat) (b : Nat → Int32) (n : Nat) (R9 : Fa ⊕ (RU × Nat)) : ∀ f i r td cnt h w2, n < i + f → i ≤ n → cnt ≤ i → td < 2 ^ 14 → RD a b n (tE b n i) r h → TokC b n i h → h.1 3 2 = nI td → (bitN td 9 = 0 → ∀ k, k < 4 → ruO r k = k) → rdF b n f i r td cnt = R9 → kx_Fe a h0 h → kx_X (l, g, m_Re_readRules, d + 8, 0, 0, (fun v h' => PoR a h0 v h' R9)) 0 0 38 [some (.ref 3), some (.int (nI cnt)), w2] [] h := by
  intro f
  induction f with
  | zero =>
    intro i r td cnt h w2 hf1 hin0
    exact absurd hf1 (by omega)
  | succ f ih =>
    intro i r td cnt h w2 hfu hin0 hcnt htd hR hto ht2 hO he hf
    unfold rdF at he
    obtain ⟨k1, k2, k3, k4, k5⟩ := id hto
    have hki := tK_le (b := b) (n := n) (i := i)
    have hn6 := hR.2.1.2.1
    have hs := hR.1
    have hd := hR.2.2.2.2.1
    have ha := hR.2.2.2.2.2.1
    have hg := ha.g
    have hr := IsRu.of hs ha
    have ho := hR.2.2.2.2.2.2.1
    have oa := hr.2.2.2.2.2.2.2.2.2.2.2.2.2.2.2.2.2
    have o16 := ho.1
    refine kx_iload_n (pc := 38) (kx_dd d_Re_readRules 20 rfl) rfl rfl ?_
    refine kx_sipush (pc := 39) (v := 600) (kx_dd d_Re_readRules 21 rfl) rfl ?_
    refine kx_icmp_ge (pc := 42) (tgt := 111) (kx_dd d_Re_readRules 22 rfl) rfl (fun c42 => ?_) (fun c42 => ?_)
    · refine kx_iload_n (pc := 111) (kx_dd d_Re_readRules 55 rfl) rfl rfl ?_
      refine kx_iret (pc := 112) rfl (kx_dd d_Re_readRules 56 rfl) (Nat.le_refl _) (Nat.le_refl _) ?_
      have hk0 : tK b n i = 0 := by
        rw [show (600 : Int32) = nI 600 from rfl, nI_leI (by decide) (by omega)] at c42
        have := tP_le (b := b) hin0
        unfold tK
        exact if_pos (by omega)
      rw [if_pos hk0] at he
      rw [← he]
      exact ⟨hf, rfl, ho, hR.2.2.2.2.2.2.2.1, hR.2.2.2.2.2.2.2.2.1, hR.2.2.2.2.2.2.2.2.2⟩
    · refine kx_aload_n (pc := 45) (kx_dd d_Re_readRules 23 rfl) rfl rfl ?_
      refine kx_getR (pc := 46) (b := 1) fl_Re_22 (hs.k 3 rfl) rfl (hs.r 10 rfl) (kx_dd d_Re_readRules 24 rfl) ?_
      refine kx_getI (pc := 49) fl_Re_43 (hs.k 1 rfl) rfl (kx_dd d_Re_readRules 25 rfl) ?_
      refine kx_if_eq (pc := 52) (tgt := 111) (kx_dd d_Re_readRules 26 rfl) rfl (fun c52 => ?_) (fun c52 => ?_)
      · refine kx_iload_n (pc := 111) (kx_dd d_Re_readRules 55 rfl) rfl rfl ?_
        refine kx_iret (pc := 112) rfl (kx_dd d_Re_readRules 56 rfl) (Nat.le_refl _) (Nat.le_refl _) ?_
        rw [k2, nI_z (by omega)] at c52
        have hk0 := c52
        rw [if_pos hk0] at he
        rw [← he]
        exact ⟨hf, rfl, ho, hR.2.2.2.2.2.2.2.1, hR.2.2.2.2.2.2.2.2.1, hR.2.2.2.2.2.2.2.2.2⟩
      · refine kx_aload_n (pc := 55) (kx_dd d_Re_readRules 27 rfl) rfl rfl ?_
        refine kx_getR (pc := 56) (b := 1) fl_Re_22 (hs.k 3 rfl) rfl (hs.r 10 rfl) (kx_dd d_Re_readRules 28 rfl) ?_
        refine kx_ldcS (pc := 59) (k := 0) rfl rfl ks_0 (kx_dd d_Re_readRules 29 rfl) ?_
        refine kx_invV (pc := 61) (a := 1) (as := [_]) (kx_dd d_Re_readRules 30 rfl) ⟨lk_Re_48, wi_Ta_among, we_Ta_among⟩ w_Ta_among (hs.k 1 rfl) rfl rfl rfl rfl (Nat.le_of_ble_eq_true rfl) (x_Ta_among (d := d + 3) hs (k := 0) (bs := [98, 97, 114, 32, 100, 97, 121, 115, 32, 99, 104, 97, 105, 110, 32, 114, 97, 116, 101, 32, 115, 112, 108, 105, 116, 32, 99, 97, 112, 32, 116, 101, 115, 116, 32, 108, 97, 116, 101, 32, 112, 97, 114, 116, 32, 111, 114, 100, 101, 114, 32, 119, 101, 105, 103, 104, 32, 110, 101, 101, 100, 32, 109, 117, 115, 116, 32, 101, 105, 116, 104, 101, 114]) rfl bk_0) (Nat.le_refl _) ⟨Nat.le_refl _, Nat.le_refl _⟩ (fun v h' hq => ?_)
        obtain ⟨rfl, hz⟩ := hq
        rw [hz]
        clear hz
        rw [amO (len := ([98, 97, 114, 32, 100, 97, 121, 115, 32, 99, 104, 97, 105, 110, 32, 114, 97, 116, 101, 32, 115, 112, 108, 105, 116, 32, 99, 97, 112, 32, 116, 101, 115, 116, 32, 108, 97, 116, 101, 32, 112, 97, 114, 116, 32, 111, 114, 100, 101, 114, 32, 119, 101, 105, 103, 104, 32, 110, 101, 101, 100, 32, 109, 117, 115, 116, 32, 101, 105, 116, 104, 101, 114] : List Int32).length) hin0 hto am_0]
        refine kx_istore_ne (pc := 64) (lv' := [_, _, _]) (kx_dd d_Re_readRules 31 rfl) rfl (Nat.le_of_ble_eq_true rfl) rfl ?_
        rw [k2, nI_z (by omega)] at c52
        have hlt0 := tK_0 hin0 c52
        rw [if_neg c52] at he
        cases hch : chO b n i nm0 with
        | none =>
          refine kx_aload_n (pc := 65) (kx_dd d_Re_readRules 32 rfl) rfl rfl ?_
          refine kx_iload_n (pc := 66) (kx_dd d_Re_readRules 33 rfl) rfl rfl ?_
          refine kx_invV (pc := 67) (a := 3) (as := [_]) (kx_dd d_Re_readRules 34 rfl) ⟨lk_Re_52, wi_Re_begins, we_Re_begins⟩ w_Re_begins (hs.k 3 rfl) rfl rfl rfl rfl (Nat.le_of_ble_eq_true rfl) (x_Re_beginsN (d := d + 4) a b n (tE b n i) r hR td htd ht2 (tP b n i) k3) (Nat.le_refl _) ⟨Nat.le_refl _, Nat.le_refl _⟩ (fun v h' hq => ?_)
          revert h'
          intro h1 hq
          obtain ⟨hF1, rfl, hfa⟩ := hq
          refine kx_if_eq (pc := 70) (tgt := 81) (kx_dd d_Re_readRules 35 rfl) rfl (fun c70 => ?_) (fun c70 => ?_)
          · refine kx_iconst (pc := 81) (v := -1) (kx_dd d_Re_readRules 40 rfl) rfl ?_
            refine kx_iret (pc := 82) rfl (kx_dd d_Re_readRules 41 rfl) (Nat.le_refl _) (Nat.le_refl _) ?_
            have ecl : clF b n i r td = .inl (1, tP b n i) := by unfold clF; rw [hch]
            rw [ecl] at he
            rw [← he]
            exact ⟨hf.tr hF1, rfl, hfa⟩
          · exact absurd rfl c70
        | some c =>
          have hc14 : c < 14 := (chO_lt hch).2
          refine kx_aload_n (pc := 65) (kx_dd d_Re_readRules 32 rfl) rfl rfl ?_
          refine kx_iload_n (pc := 66) (kx_dd d_Re_readRules 33 rfl) rfl rfl ?_
          refine kx_invV (pc := 67) (a := 3) (as := [_]) (kx_dd d_Re_readRules 34 rfl) ⟨lk_Re_52, wi_Re_begins, we_Re_begins⟩ w_Re_begins (hs.k 3 rfl) rfl rfl rfl rfl (Nat.le_of_ble_eq_true rfl) (x_Re_begins (d := d + 4) a b n (tE b n i) r hR td htd ht2 (tP b n i) k3 c hc14) (Nat.le_refl _) ⟨Nat.le_refl _, Nat.le_refl _⟩ (fun v h' hq => ?_)
          revert h'
          intro h1 hq
          obtain ⟨hF1, hqq⟩ := hq
          rcases hqq with ⟨rfl, hqq⟩ | ⟨rfl, hnt, hnf, hT1, hR1⟩
          · skip
            refine kx_if_eq (pc := 70) (tgt := 81) (kx_dd d_Re_readRules 35 rfl) rfl (fun c70 => ?_) (fun c70 => ?_)
            · refine kx_iconst (pc := 81) (v := -1) (kx_dd d_Re_readRules 40 rfl) rfl ?_
              refine kx_iret (pc := 82) rfl (kx_dd d_Re_readRules 41 rfl) (Nat.le_refl _) (Nat.le_refl _) ?_
              rcases hqq with ⟨z1, z2⟩ | ⟨z1, z2, z3⟩
              · have ecl : clF b n i r td = .inl (3, tP b n i) := by
                  unfold clF
                  rw [hch]
                  exact if_pos z1
                rw [ecl] at he
                rw [← he]
                exact ⟨hf.tr hF1, rfl, z2⟩
              · have ecl : clF b n i r td = .inl (4, tP b n i) := by
                  unfold clF
                  rw [hch]
                  exact (if_neg z1).trans (if_pos z2)
                rw [ecl] at he
                rw [← he]
                exact ⟨hf.tr hF1, rfl, z3⟩
            · exact absurd rfl c70
          · skip
            have hs := hR1.1
            have hd := hR1.2.2.2.2.1
            have hr := IsRu.of hs hR1.2.2.2.2.2.1
            have htd9 : td ||| 2 ^ c < 2 ^ 14 := Nat.or_lt_two_pow htd (Nat.pow_lt_pow_right (by decide) hc14)
            refine kx_if_eq (pc := 70) (tgt := 81) (kx_dd d_Re_readRules 35 rfl) rfl (fun c70 => ?_) (fun c70 => ?_)
            · exact absurd c70 (by decide)
            · refine kx_aload_n (pc := 73) (kx_dd d_Re_readRules 36 rfl) rfl rfl ?_
              refine kx_iload_n (pc := 74) (kx_dd d_Re_readRules 37 rfl) rfl rfl ?_
              refine kx_invV (pc := 75) (a := 3) (as := [_]) (kx_dd d_Re_readRules 38 rfl) ⟨lk_Re_56, wi_Re_readBody, we_Re_readBody⟩ w_Re_readBody (hs.k 3 rfl) rfl rfl rfl rfl (Nat.le_of_ble_eq_true rfl) (x_Re_readBody (d := d) a b n (tE b n i) r hR1 c hc14 (fun z => hO (by subst z; have h1 : bitN td 9 < 2 := (by unfold bitN; omega); have h2 := fun y => hnt ⟨Nat.le_refl _, y⟩; omega)) hnf) (Nat.le_refl _) ⟨Nat.le_refl _, Nat.le_refl _⟩ (fun v h' hq => ?_)
              revert h'
              intro h2 hq
              obtain ⟨hF2, hqb⟩ := hq
              cases hB : bodF c b n (tE b n i) r with
              | inl f =>
                rw [hB] at hqb
                obtain ⟨rfl, hfa⟩ := hqb
                refine kx_if_ne (pc := 78) (tgt := 83) (kx_dd d_Re_readRules 39 rfl) rfl (fun c78 => ?_) (fun c78 => ?_)
                · exact absurd rfl c78
                · refine kx_iconst (pc := 81) (v := -1) (kx_dd d_Re_readRules 40 rfl) rfl ?_
                  refine kx_iret (pc := 82) rfl (kx_dd d_Re_readRules 41 rfl) (Nat.le_refl _) (Nat.le_refl _) ?_
                  have ecl : clF b n i r td = (match bodF c b n (tE b n i) r with
                      | .inl f => .inl f
                      | .inr q => if c = 9 then .inr (q.1, td ||| 2 ^ c, q.2) else if tK b n q.2 = 3 then .inr (q.1, td ||| 2 ^ c, tE b n q.2) else .inl (1, tP b n q.2)) := by
                    unfold clF
                    rw [hch]
                    exact (if_neg hnt).trans (if_neg hnf)
                  rw [hB] at ecl
                  rw [ecl] at he
                  rw [← he]
                  exact ⟨(hf.tr hF1).tr hF2.e, rfl, hfa⟩
              | inr q9 =>
                rw [hB] at hqb
                obtain ⟨rfl, hR2⟩ := hqb
                have hT9 : h2.1 3 2 = nI (td ||| 2 ^ c) := (hF2.1 3 2 (by unfold FrI; omega)).trans hT1
                have hj9 := bodF_ge hR1.2.2.1 hB
                have hs := hR2.1
                have hd := hR2.2.2.2.2.1
                have hr := IsRu.of hs hR2.2.2.2.2.2.1
                refine kx_if_ne (pc := 78) (tgt := 83) (kx_dd d_Re_readRules 39 rfl) rfl (fun c78 => ?_) (fun c78 => ?_)
                · refine kx_iload_n (pc := 83) (kx_dd d_Re_readRules 42 rfl) rfl rfl ?_
                  refine kx_bipush (pc := 84) (v := 9) (kx_dd d_Re_readRules 43 rfl) rfl ?_
                  refine kx_icmp_eq (pc := 86) (tgt := 98) (kx_dd d_Re_readRules 44 rfl) rfl (fun c86 => ?_) (fun c86 => ?_)
                  · have ecl : clF b n i r td = (match bodF c b n (tE b n i) r with
                        | .inl f => .inl f
                        | .inr q => if c = 9 then .inr (q.1, td ||| 2 ^ c, q.2) else if tK b n q.2 = 3 then .inr (q.1, td ||| 2 ^ c, tE b n q.2) else .inl (1, tP b n q.2)) := by
                      unfold clF
                      rw [hch]
                      exact (if_neg hnt).trans (if_neg hnf)
                    rw [show oI (some c) = nI c from rfl, show (9 : Int32) = nI 9 from rfl, nI_eq (by omega) (by decide)] at c86
                    rw [hB] at ecl
                    simp only [c86, if_true] at ecl
                    rw [ecl] at he
                    refine kx_iinc_e (pc := 98) (v := nI (cnt + 1)) (lv' := [_, _, _]) (kx_dd d_Re_readRules 50 rfl) rfl (Nat.le_of_ble_eq_true rfl) (nI_1 cnt) rfl ?_
                    refine kx_aload_n (pc := 101) (kx_dd d_Re_readRules 51 rfl) rfl rfl ?_
                    refine kx_getR (pc := 102) (b := 1) fl_Re_22 (hs.k 3 rfl) rfl (hs.r 10 rfl) (kx_dd d_Re_readRules 52 rfl) ?_
                    refine kx_invV (pc := 105) (a := 1) (as := []) (kx_dd d_Re_readRules 53 rfl) ⟨lk_Re_40, wi_Ta_readToken, we_Ta_readToken⟩ w_Ta_readToken (hs.k 1 rfl) rfl rfl rfl rfl (Nat.le_of_ble_eq_true rfl) (x_Ta_readToken (d := d + 5) hR2.1 b n q9.2 hR2.2.1 hR2.2.2.1 hR2.2.2.2.1) (Nat.le_refl _) ⟨Nat.le_refl _, Nat.le_refl _⟩ (fun v h' hq => ?_)
                    revert h'
                    intro h9 hq
                    obtain ⟨rfl, hto9, hft9⟩ := hq
                    refine kx_goto (pc := 108) (tgt := 38) (kx_dd d_Re_readRules 54 rfl) rfl ?_
                    refine ih q9.2 q9.1 (td ||| 2 ^ c) (cnt + 1) h9 _ (by omega) hR2.2.2.1 (by omega) htd9 (hR2.tok hto9 hft9) hto9 ?_ ?_ ?_ ?_
                    · rw [hft9.1 3 2 (by unfold FtI; omega)]; exact hT9
                    · intro z
                      have z2 := bit_or9 z
                      rw [bodF_O z2.2 hB]
                      exact hO z2.1
                    · rw [c86]; exact he
                    · exact ((hf.tr hF1).tr hF2.e).tr ((hft9.d (a := a)).e)
                  · refine kx_aload_n (pc := 89) (kx_dd d_Re_readRules 45 rfl) rfl rfl ?_
                    refine kx_invV (pc := 90) (a := 3) (as := []) (kx_dd d_Re_readRules 46 rfl) ⟨lk_Re_59, wi_Re_readStop, we_Re_readStop⟩ w_Re_readStop (hs.k 3 rfl) rfl rfl rfl rfl (Nat.le_of_ble_eq_true rfl) (x_Re_readStop (d := d + 4) a b n q9.2 q9.1 hR2) (Nat.le_refl _) ⟨Nat.le_refl _, Nat.le_refl _⟩ (fun v h' hq => ?_)
                    revert h'
                    intro h3 hq
                    obtain ⟨hF3, hsa, hsb⟩ := hq
                    by_cases h3s : tK b n q9.2 = 3
                    · skip
                      obtain ⟨rfl, hR3⟩ := hsa h3s
                      have hT9 := (hF3.1 3 2 (by unfold FrI; omega)).trans hT9
                      have hs := hR3.1
                      have hd := hR3.2.2.2.2.1
                      have hr := IsRu.of hs hR3.2.2.2.2.2.1
                      refine kx_if_ne (pc := 93) (tgt := 98) (kx_dd d_Re_readRules 47 rfl) rfl (fun c93 => ?_) (fun c93 => ?_)
                      · have ecl : clF b n i r td = (match bodF c b n (tE b n i) r with
                            | .inl f => .inl f
                            | .inr q => if c = 9 then .inr (q.1, td ||| 2 ^ c, q.2) else if tK b n q.2 = 3 then .inr (q.1, td ||| 2 ^ c, tE b n q.2) else .inl (1, tP b n q.2)) := by
                          unfold clF
                          rw [hch]
                          exact (if_neg hnt).trans (if_neg hnf)
                        rw [show oI (some c) = nI c from rfl, show (9 : Int32) = nI 9 from rfl, nI_eq (by omega) (by decide)] at c86
                        rw [hB] at ecl
                        simp only [c86, if_false, h3s, if_true] at ecl
                        rw [ecl] at he
                        have hj8 := tE_n (b := b) hR2.2.2.1
                        refine kx_iinc_e (pc := 98) (v := nI (cnt + 1)) (lv' := [_, _, _]) (kx_dd d_Re_readRules 50 rfl) rfl (Nat.le_of_ble_eq_true rfl) (nI_1 cnt) rfl ?_
                        refine kx_aload_n (pc := 101) (kx_dd d_Re_readRules 51 rfl) rfl rfl ?_
                        refine kx_getR (pc := 102) (b := 1) fl_Re_22 (hs.k 3 rfl) rfl (hs.r 10 rfl) (kx_dd d_Re_readRules 52 rfl) ?_
                        refine kx_invV (pc := 105) (a := 1) (as := []) (kx_dd d_Re_readRules 53 rfl) ⟨lk_Re_40, wi_Ta_readToken, we_Ta_readToken⟩ w_Ta_readToken (hs.k 1 rfl) rfl rfl rfl rfl (Nat.le_of_ble_eq_true rfl) (x_Ta_readToken (d := d + 5) hR3.1 b n (tE b n q9.2) hR3.2.1 hR3.2.2.1 hR3.2.2.2.1) (Nat.le_refl _) ⟨Nat.le_refl _, Nat.le_refl _⟩ (fun v h' hq => ?_)
                        revert h'
                        intro h9 hq
                        obtain ⟨rfl, hto9, hft9⟩ := hq
                        refine kx_goto (pc := 108) (tgt := 38) (kx_dd d_Re_readRules 54 rfl) rfl ?_
                        refine ih (tE b n q9.2) q9.1 (td ||| 2 ^ c) (cnt + 1) h9 _ (by omega) hR3.2.2.1 (by omega) htd9 (hR3.tok hto9 hft9) hto9 ?_ ?_ ?_ ?_
                        · rw [hft9.1 3 2 (by unfold FtI; omega)]; exact hT9
                        · intro z
                          have z2 := bit_or9 z
                          rw [bodF_O z2.2 hB]
                          exact hO z2.1
                        · exact he
                        · exact (((hf.tr hF1).tr hF2.e).tr hF3.e).tr ((hft9.d (a := a)).e)
                      · exact absurd c93 (by decide)
                    · skip
                      obtain ⟨rfl, hfa⟩ := hsb h3s
                      refine kx_if_ne (pc := 93) (tgt := 98) (kx_dd d_Re_readRules 47 rfl) rfl (fun c93 => ?_) (fun c93 => ?_)
                      · exact absurd rfl c93
                      · refine kx_iconst (pc := 96) (v := -1) (kx_dd d_Re_readRules 48 rfl) rfl ?_
                        refine kx_iret (pc := 97) rfl (kx_dd d_Re_readRules 49 rfl) (Nat.le_refl _) (Nat.le_refl _) ?_
                        have ecl : clF b n i r td = (match bodF c b n (tE b n i) r with
                            | .inl f => .inl f
                            | .inr q => if c = 9 then .inr (q.1, td ||| 2 ^ c, q.2) else if tK b n q.2 = 3 then .inr (q.1, td ||| 2 ^ c, tE b n q.2) else .inl (1, tP b n q.2)) := by
                          unfold clF
                          rw [hch]
                          exact (if_neg hnt).trans (if_neg hnf)
                        rw [show oI (some c) = nI c from rfl, show (9 : Int32) = nI 9 from rfl, nI_eq (by omega) (by decide)] at c86
                        rw [hB] at ecl
                        simp only [c86, if_false, h3s] at ecl
                        rw [ecl] at he
                        rw [← he]
                        exact ⟨((hf.tr hF1).tr hF2.e).tr hF3.e, rfl, hfa⟩
                · exact absurd c78 (by decide)
theorem x_Re_readRules {l : Launch} {g : kx_G} {d : Nat} {h : kx_Mem} (hs : SC h) (a : Nat) (ha : isRuA a) (b : Nat → Int32) (n : Nat) (ht : TapC b n h) (hd : h.2.2.1 3 1 = some a) : kx_Sp l g m_Re_readRules [.ref 3] h (d + 8) 0 0 (fun v h' => PoR a h v h' (rdF b n (n + 1) 0 ru0 0 0)) := by
  have hg := ha.g
  have hr := IsRu.of hs ha
  have oa := hr.2.2.2.2.2.2.2.2.2.2.2.2.2.2.2.2.2
  refine kx_enter_e (lv := [_, _, _]) (by decide +kernel) (Nat.le_of_ble_eq_true rfl) rfl ?_
  refine kx_aload_n (pc := 0) (kx_dd d_Re_readRules 0 rfl) rfl rfl ?_
  refine kx_getR (pc := 1) (b := a) fl_Re_12 (hs.k 3 rfl) rfl hd (kx_dd d_Re_readRules 1 rfl) ?_
  refine kx_invV (pc := 4) (a := a) (as := []) (kx_dd d_Re_readRules 2 rfl) ⟨lk_Re_26, wi_Ru_reset, we_Ru_reset⟩ w_Ru_reset (congrArg Prod.fst hr.1) rfl rfl rfl rfl (Nat.le_of_ble_eq_true rfl) (x_Ru_reset (d := d + 7) a hr) (Nat.le_refl _) ⟨Nat.le_refl _, Nat.le_refl _⟩ (fun v h' hq => ?_)
  revert h'
  intro h1 hq
  obtain ⟨rfl, hru, hf1⟩ := hq
  have hs := hs.fc hf1
  refine kx_aload_n (pc := 7) (kx_dd d_Re_readRules 3 rfl) rfl rfl ?_
  refine kx_iconst (pc := 8) (v := 0) (kx_dd d_Re_readRules 4 rfl) rfl ?_
  refine kx_putI (pc := 9) fl_Re_29 (hs.k 3 rfl) (by decide) rfl rfl (kx_dd d_Re_readRules 5 rfl) ?_
  refine kx_aload_n (pc := 12) (kx_dd d_Re_readRules 6 rfl) rfl rfl ?_
  refine kx_iconst (pc := 13) (v := 0) (kx_dd d_Re_readRules 7 rfl) rfl ?_
  refine kx_putI (pc := 14) fl_Re_32 (hs.k 3 rfl) (by decide) rfl rfl (kx_dd d_Re_readRules 8 rfl) ?_
  refine kx_aload_n (pc := 17) (kx_dd d_Re_readRules 9 rfl) rfl rfl ?_
  refine kx_iconst (pc := 18) (v := -1) (kx_dd d_Re_readRules 10 rfl) rfl ?_
  refine kx_putI (pc := 19) fl_Re_18 (hs.k 3 rfl) (by decide) rfl rfl (kx_dd d_Re_readRules 11 rfl) ?_
  refine kx_iconst (pc := 22) (v := 0) (kx_dd d_Re_readRules 12 rfl) rfl ?_
  refine kx_istore_ne (pc := 23) (lv' := [_, _, _]) (kx_dd d_Re_readRules 13 rfl) rfl (Nat.le_of_ble_eq_true rfl) rfl ?_
  refine kx_aload_n (pc := 24) (kx_dd d_Re_readRules 14 rfl) rfl rfl ?_
  refine kx_getR (pc := 25) (b := 1) fl_Re_22 (hs.k 3 rfl) rfl (hs.r 10 rfl) (kx_dd d_Re_readRules 15 rfl) ?_
  refine kx_invV (pc := 28) (a := 1) (as := []) (kx_dd d_Re_readRules 16 rfl) ⟨lk_Re_35, wi_Ta_rewind, we_Ta_rewind⟩ w_Ta_rewind (hs.k 1 rfl) rfl rfl rfl rfl (Nat.le_of_ble_eq_true rfl) (x_Ta_rewind (d := d + 7) hs) (Nat.le_refl _) ⟨Nat.le_refl _, Nat.le_refl _⟩ (fun v h' hq => ?_)
  revert h'
  intro h2 hq
  obtain ⟨rfl, rfl⟩ := hq
  refine kx_aload_n (pc := 31) (kx_dd d_Re_readRules 17 rfl) rfl rfl ?_
  refine kx_getR (pc := 32) (b := 1) fl_Re_22 (hs.k 3 rfl) rfl (hs.r 10 rfl) (kx_dd d_Re_readRules 18 rfl) ?_
  have hf2 : kx_Fc (fun x j => (x = 1 ∧ j = 2) ∨ (x = 3 ∧ 2 ≤ j ∧ j ≤ 4)) h1 (kx_setI (kx_setI (kx_setI (kx_setI h1 3 2 0) 3 3 0) 3 4 (-1)) 1 2 0) := (((kx_Fc.set (Or.inr ⟨rfl, by decide, by decide⟩)).tr (kx_Fc.set (Or.inr ⟨rfl, by decide, by decide⟩))).tr (kx_Fc.set (Or.inr ⟨rfl, by decide, by decide⟩))).tr (kx_Fc.set (Or.inl ⟨rfl, rfl⟩))
  have ht1 : TapC b n h1 := ⟨(hf1.2 1 1 (by omega)).trans ht.1, ht.2.1, fun k hk => (hf1.2 2 k (by omega)).trans (ht.2.2 k hk)⟩
  have hR9 : RD a b n 0 ru0 (kx_setI (kx_setI (kx_setI (kx_setI h1 3 2 0) 3 3 0) 3 4 (-1)) 1 2 0) := ⟨hs.fc hf2, ⟨(hf2.2 1 1 (by omega)).trans ht1.1, ht1.2.1, fun k hk => (hf2.2 2 k (by omega)).trans (ht1.2.2 k hk)⟩, Nat.zero_le _, setI_at, (by show h1.2.2.1 3 1 = some a; rw [hf1.1]; exact hd), ha, ru0_ok, hru.fx9 ha hf2 (fun b j hb z => by omega), (by rw [setI_ne (Or.inl (by decide)), setI_ne (Or.inr (by decide))]; exact setI_at), (by rw [setI_ne (Or.inl (by decide))]; exact setI_at)⟩
  have hfe : kx_Fe a h (kx_setI (kx_setI (kx_setI (kx_setI h1 3 2 0) 3 3 0) 3 4 (-1)) 1 2 0) := ((hf1.mono (P' := fun x j => FrI a x j ∨ (x = 3 ∧ j = 2)) (fun x j z => Or.inl (Or.inr (Or.inr z)))).tr (hf2.mono (fun x j z => by rcases z with z | z; exact Or.inl (Or.inl (by omega)); rcases Nat.eq_or_lt_of_le z.2.1 with q | q; exact Or.inr ⟨z.1, q.symm⟩; exact Or.inl (Or.inr (Or.inl ⟨z.1, q, z.2.2⟩))))).g
  refine kx_invV (pc := 35) (a := 1) (as := []) (kx_dd d_Re_readRules 19 rfl) ⟨lk_Re_40, wi_Ta_readToken, we_Ta_readToken⟩ w_Ta_readToken (hs.k 1 rfl) rfl rfl rfl rfl (Nat.le_of_ble_eq_true rfl) (x_Ta_readToken (d := d + 5) hR9.1 b n 0 hR9.2.1 hR9.2.2.1 hR9.2.2.2.1) (Nat.le_refl _) ⟨Nat.le_refl _, Nat.le_refl _⟩ (fun v h' hq => ?_)
  revert h'
  intro h3 hq
  obtain ⟨rfl, hto9, hft9⟩ := hq
  exact x_Re_loop a b n _ (n + 1) 0 ru0 0 0 h3 none (by omega) (Nat.zero_le _) (Nat.le_refl _) (by decide) (hR9.tok hto9 hft9) hto9 (by rw [hft9.1 3 2 (by unfold FtI; omega), setI_ne (Or.inl (by decide)), setI_ne (Or.inr (by decide)), setI_ne (Or.inr (by decide))]; exact setI_at) (fun _ k _ => rfl) rfl (hfe.tr (hft9.d (a := a)).e)
theorem x_Re_exchange {l : Launch} {g : kx_G} {d : Nat} {h : kx_Mem} (hs : SC h) (a a2 : Nat) (hd : h.2.2.1 3 1 = some a) : kx_Sp l g m_Re_exchange [.ref 3, .ref a2] h (d) 0 0 (fun v h' => v = some (.ref a) ∧ h' = kx_setR h 3 1 (some a2)) := by
  refine kx_enter_e (lv := [_, _, _]) (by decide +kernel) (Nat.le_of_ble_eq_true rfl) rfl ?_
  refine kx_aload_n (pc := 0) (kx_dd d_Re_exchange 0 rfl) rfl rfl ?_
  refine kx_getR (pc := 1) (b := a) fl_Re_12 (hs.k 3 rfl) rfl hd (kx_dd d_Re_exchange 1 rfl) ?_
  refine kx_astore_ne (pc := 4) (lv' := [_, _, _]) (kx_dd d_Re_exchange 2 rfl) rfl (Nat.le_of_ble_eq_true rfl) rfl ?_
  refine kx_aload_n (pc := 5) (kx_dd d_Re_exchange 3 rfl) rfl rfl ?_
  refine kx_aload_n (pc := 6) (kx_dd d_Re_exchange 4 rfl) rfl rfl ?_
  refine kx_putR (pc := 7) (v := some (a2)) fl_Re_12 (hs.k 3 rfl) (by decide) rfl rfl (kx_dd d_Re_exchange 5 rfl) ?_
  refine kx_aload_n (pc := 10) (kx_dd d_Re_exchange 6 rfl) rfl rfl ?_
  refine kx_aret (pc := 11) (r := some (a)) rfl (Or.inl ⟨_, rfl⟩) (kx_dd d_Re_exchange 7 rfl) (Nat.le_refl _) (Nat.le_refl _) ?_
  exact ⟨rfl, rfl⟩
