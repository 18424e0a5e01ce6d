/-! the class: RulesReader, the clauses -/
theorem x_Re_readSetting {l : Launch} {g : kx_G} {d : Nat} {h : kx_Mem} (a : Nat) (b : Nat → Int32) (n i : Nat) (r : RU) (hR : RD a b n i r h) (s lo hi : Nat) (hs11 : s < 11) (hlo : lo < 2 ^ 31) (hhi : hi < 2 ^ 31) : kx_Sp l g m_Re_readSetting [.ref 3, .int (nI s), .int (nI lo), .int (nI hi)] h (d + 4) 0 0 (fun v h' => PoD a b n h v h' (setF2 b n i r s lo hi)) := by
  have hs := hR.1
  have hd := hR.2.2.2.2.1
  have ha := hR.2.2.2.2.2.1
  have hg := ha.g
  have hr := IsRu.of hs ha
  have hin := hR.2.2.1
  have ho := hR.2.2.2.2.2.2.1
  have oa := hr.2.2.2.2.2.2.2.2.2.2.2.2.2.2.2.2.2
  have o16 := ho.1
  refine kx_enter_e (lv := [_, _, _, _]) (by decide +kernel) (Nat.le_of_ble_eq_true rfl) rfl ?_
  refine kx_aload_n (pc := 0) (kx_dd d_Re_readSetting 0 rfl) rfl rfl ?_
  refine kx_iload_n (pc := 1) (kx_dd d_Re_readSetting 1 rfl) rfl rfl ?_
  refine kx_iload_n (pc := 2) (kx_dd d_Re_readSetting 2 rfl) rfl rfl ?_
  refine kx_invV (pc := 3) (a := 3) (as := [_, _]) (kx_dd d_Re_readSetting 3 rfl) ⟨lk_Re_111, wi_Re_readNumber, we_Re_readNumber⟩ w_Re_readNumber (hs.k 3 rfl) rfl rfl rfl rfl (Nat.le_of_ble_eq_true rfl) (x_Re_readNumber (d := d) a b n i r hR lo hi (by omega) (by omega)) (Nat.le_refl _) ⟨Nat.le_refl _, Nat.le_refl _⟩ (fun v h' hq => ?_)
  revert h'
  intro h1 hq
  obtain ⟨hF1, hq⟩ := hq
  cases hN : numF b n i lo hi with
  | inl f =>
    rw [hN] at hq
    obtain ⟨rfl, hfa⟩ := hq
    refine kx_if_ne (pc := 6) (tgt := 11) (kx_dd d_Re_readSetting 4 rfl) rfl (fun c6 => ?_) (fun c6 => ?_)
    · exact absurd rfl c6
    · refine kx_iconst (pc := 9) (v := 0) (kx_dd d_Re_readSetting 5 rfl) rfl ?_
      refine kx_zret (pc := 10) rfl rfl (kx_dd d_Re_readSetting 6 rfl) (Nat.le_refl _) (Nat.le_refl _) ?_
      exact ⟨hF1, by unfold setF2; rw [hN]; exact ⟨rfl, hfa⟩⟩
  | inr q9 =>
    rw [hN] at hq
    obtain ⟨rfl, hR1, hx5⟩ := hq
    have hs := hR1.1
    have hd := hR1.2.2.2.2.1
    have hr := IsRu.of hs hR1.2.2.2.2.2.1
    refine kx_if_ne (pc := 6) (tgt := 11) (kx_dd d_Re_readSetting 4 rfl) rfl (fun c6 => ?_) (fun c6 => ?_)
    · refine kx_aload_n (pc := 11) (kx_dd d_Re_readSetting 7 rfl) rfl rfl ?_
      refine kx_getR (pc := 12) (b := a) fl_Re_12 (hs.k 3 rfl) rfl hd (kx_dd d_Re_readSetting 8 rfl) ?_
      refine kx_iload_n (pc := 15) (kx_dd d_Re_readSetting 9 rfl) rfl rfl ?_
      refine kx_aload_n (pc := 16) (kx_dd d_Re_readSetting 10 rfl) rfl rfl ?_
      refine kx_getR (pc := 17) (b := 1) fl_Re_22 (hs.k 3 rfl) rfl (hs.r 10 rfl) (kx_dd d_Re_readSetting 11 rfl) ?_
      refine kx_getI (pc := 20) fl_Re_115 (hs.k 1 rfl) rfl (kx_dd d_Re_readSetting 12 rfl) ?_
      rw [hx5]
      refine kx_invV (pc := 23) (a := a) (as := [_, _]) (kx_dd d_Re_readSetting 13 rfl) ⟨lk_Re_118, wi_Ru_set, we_Ru_set⟩ w_Ru_set (congrArg Prod.fst hr.1) rfl rfl rfl rfl (Nat.le_of_ble_eq_true rfl) (x_Ru_set (d := d + 3) a hr s hs11 (nI q9.1)) (Nat.le_refl _) ⟨Nat.le_refl _, Nat.le_refl _⟩ (fun v h' hq => ?_)
      revert h'
      intro h2 hq
      obtain ⟨rfl, rfl⟩ := hq
      obtain ⟨hR2, hF2⟩ := hR1.put (r' := ruSet r s (nI q9.1)) (kx_Fg.setI ⟨by omega, by omega⟩) (ho.set s _) hR1.2.2.2.2.2.2.2.1.set
      refine kx_iconst (pc := 26) (v := 1) (kx_dd d_Re_readSetting 14 rfl) rfl ?_
      refine kx_zret (pc := 27) rfl rfl (kx_dd d_Re_readSetting 15 rfl) (Nat.le_refl _) (Nat.le_refl _) ?_
      exact ⟨hF1.tr hF2, by unfold setF2; rw [hN]; exact ⟨rfl, hR2⟩⟩
    · exact absurd c6 (by decide)
theorem amO {b : Nat → Int32} {n i : Nat} {h : kx_Mem} (hin : i ≤ n) (hto : TokC b n i h) {c : Nat → Int32} {len : Nat} {nm : List Nat} (ham : ∀ w, w < 2 ^ 60 → amK c (lN w) len 0 0 0 = oI (ixO nm w 0)) : (if h.1 1 3 = 1 then amK c (h.2.1 1 6) len 0 0 0 else -1) = oI (chO b n i nm) := by
  obtain ⟨k1, k2, k3, k4, k5⟩ := hto
  have hki := tK_le (b := b) (n := n) (i := i)
  unfold chO
  rw [k2, show (1 : Int32) = nI 1 from rfl]
  by_cases e : tK b n i = 1
  · rw [if_pos e, e, if_pos rfl, k4 e]
    exact ham _ (tW_lt hin e).2
  · rw [if_neg e, if_neg (fun z => e ((nI_eq (by omega) (by decide)).mp z))]
    rfl
theorem chO_i {b : Nat → Int32} {n i : Nat} {nm : List Nat} (hl : nm.length < 100) : oI (chO b n i nm) = -1 ↔ chO b n i nm = none := oI_n (fun k z => by have := (chO_lt z).2; omega)
theorem x_Re_readChoice {l : Launch} {g : kx_G} {d : Nat} {h : kx_Mem} (a : Nat) (b : Nat → Int32) (n i : Nat) (r : RU) (hR : RD a b n i r h) {k i9 p9 : Nat} {o tx : String} {bs : List Int32} (hk : kx_stb[k]? = some (o, i9, tx, p9, bs)) (hb : ∀ j, j < bs.length → bs.getD j 0 = 32 ∨ isLe (bs.getD j 0) = true) (nm : List Nat) (hnl : nm.length < 100) (ham : ∀ w, w < 2 ^ 60 → amK (fun j => bs.getD j 0) (lN w) bs.length 0 0 0 = oI (ixO nm w 0)) (s : Nat) (hs11 : s < 11) : kx_Sp l g m_Re_readChoice [.ref 3, .int (nI s), .ref (1000000 + k)] h (d + 5) 0 0 (fun v h' => PoD a b n h v h' (chcF b n i r s nm)) := by
  have hs := hR.1
  have hd := hR.2.2.2.2.1
  have ha := hR.2.2.2.2.2.1
  have hg := ha.g
  have hr := IsRu.of hs ha
  have hin := hR.2.2.1
  have ho := hR.2.2.2.2.2.2.1
  have oa := hr.2.2.2.2.2.2.2.2.2.2.2.2.2.2.2.2.2
  have o16 := ho.1
  refine kx_enter_e (lv := [_, _, _, _]) (by decide +kernel) (Nat.le_of_ble_eq_true rfl) rfl ?_
  refine kx_aload_n (pc := 0) (kx_dd d_Re_readChoice 0 rfl) rfl rfl ?_
  refine kx_getR (pc := 1) (b := 1) fl_Re_22 (hs.k 3 rfl) rfl (hs.r 10 rfl) (kx_dd d_Re_readChoice 1 rfl) ?_
  refine kx_invV (pc := 4) (a := 1) (as := []) (kx_dd d_Re_readChoice 2 rfl) ⟨lk_Re_40, wi_Ta_readToken, we_Ta_readToken⟩ w_Ta_readToken (hs.k 1 rfl) rfl rfl rfl rfl (Nat.le_of_ble_eq_true rfl) (x_Ta_readToken (d := d + 2) hR.1 b n i hR.2.1 hR.2.2.1 hR.2.2.2.1) (Nat.le_refl _) ⟨Nat.le_refl _, Nat.le_refl _⟩ (fun v h' hq => ?_)
  revert h'
  intro h1 hq
  obtain ⟨rfl, hto, hft⟩ := hq
  have hR1 := hR.tok hto hft
  have hF1 : kx_Fd a h h1 := hft.d
  obtain ⟨k1, k2, k3, k4, k5⟩ := id hto
  have hki := tK_le (b := b) (n := n) (i := i)
  have hs := hR1.1
  have hd := hR1.2.2.2.2.1
  have hr := IsRu.of hs hR1.2.2.2.2.2.1
  refine kx_aload_n (pc := 7) (kx_dd d_Re_readChoice 3 rfl) rfl rfl ?_
  refine kx_getR (pc := 8) (b := 1) fl_Re_22 (hs.k 3 rfl) rfl (hs.r 10 rfl) (kx_dd d_Re_readChoice 4 rfl) ?_
  refine kx_aload_n (pc := 11) (kx_dd d_Re_readChoice 5 rfl) rfl rfl ?_
  refine kx_invV (pc := 12) (a := 1) (as := [_]) (kx_dd d_Re_readChoice 6 rfl) ⟨lk_Re_48, wi_Ta_among, we_Ta_among⟩ w_Ta_among (hs.k 1 rfl) rfl rfl rfl rfl (Nat.le_of_ble_eq_true rfl) (x_Ta_among (d := d) hs hk hb) (Nat.le_refl _) ⟨Nat.le_refl _, Nat.le_refl _⟩ (fun v h' hq => ?_)
  obtain ⟨rfl, hz⟩ := hq
  rw [hz]
  clear hz
  rw [amO hin hto ham]
  refine kx_istore_ne (pc := 15) (lv' := [_, _, _, _]) (kx_dd d_Re_readChoice 7 rfl) rfl (Nat.le_of_ble_eq_true rfl) rfl ?_
  refine kx_iload_n (pc := 16) (kx_dd d_Re_readChoice 8 rfl) rfl rfl ?_
  refine kx_iconst (pc := 17) (v := -1) (kx_dd d_Re_readChoice 9 rfl) rfl ?_
  refine kx_icmp_ne (pc := 18) (tgt := 27) (kx_dd d_Re_readChoice 10 rfl) rfl (fun c18 => ?_) (fun c18 => ?_)
  · refine kx_aload_n (pc := 27) (kx_dd d_Re_readChoice 15 rfl) rfl rfl ?_
    refine kx_getR (pc := 28) (b := a) fl_Re_12 (hs.k 3 rfl) rfl hd (kx_dd d_Re_readChoice 16 rfl) ?_
    refine kx_iload_n (pc := 31) (kx_dd d_Re_readChoice 17 rfl) rfl rfl ?_
    refine kx_iload_n (pc := 32) (kx_dd d_Re_readChoice 18 rfl) rfl rfl ?_
    refine kx_invV (pc := 33) (a := a) (as := [_, _]) (kx_dd d_Re_readChoice 19 rfl) ⟨lk_Re_118, wi_Ru_set, we_Ru_set⟩ w_Ru_set (congrArg Prod.fst hr.1) rfl rfl rfl rfl (Nat.le_of_ble_eq_true rfl) (x_Ru_set (d := d + 4) a hr s hs11 _) (Nat.le_refl _) ⟨Nat.le_refl _, Nat.le_refl _⟩ (fun v h' hq => ?_)
    revert h'
    intro h2 hq
    obtain ⟨rfl, rfl⟩ := hq
    refine kx_iconst (pc := 36) (v := 1) (kx_dd d_Re_readChoice 20 rfl) rfl ?_
    refine kx_zret (pc := 37) rfl rfl (kx_dd d_Re_readChoice 21 rfl) (Nat.le_refl _) (Nat.le_refl _) ?_
    rw [chO_i hnl] at c18
    obtain ⟨q, hqq⟩ := Option.ne_none_iff_exists'.mp c18
    obtain ⟨hR2, hF2⟩ := hR1.put (r' := ruSet r s (oI (chO b n i nm))) (kx_Fg.setI ⟨by omega, by omega⟩) (ho.set s _) hR1.2.2.2.2.2.2.2.1.set
    refine ⟨hF1.tr hF2, ?_⟩
    unfold chcF
    rw [hqq] at hR2 ⊢
    exact ⟨rfl, hR2⟩
  · refine kx_aload_n (pc := 21) (kx_dd d_Re_readChoice 11 rfl) rfl rfl ?_
    refine kx_iconst (pc := 22) (v := 1) (kx_dd d_Re_readChoice 12 rfl) rfl ?_
    refine kx_invV (pc := 23) (a := 3) (as := [_]) (kx_dd d_Re_readChoice 13 rfl) ⟨lk_Re_63, wi_Re_refuse, we_Re_refuse⟩ w_Re_refuse (hs.k 3 rfl) rfl rfl rfl rfl (Nat.le_of_ble_eq_true rfl) (x_Re_refuse (d := d + 4) hs (nI 1)) (Nat.le_refl _) ⟨Nat.le_refl _, Nat.le_refl _⟩ (fun v h' hq => ?_)
    revert h'
    intro h9 hq
    obtain ⟨rfl, rfl⟩ := hq
    refine kx_zret (pc := 26) rfl rfl (kx_dd d_Re_readChoice 14 rfl) (Nat.le_refl _) (Nat.le_refl _) ?_
    rw [chO_i hnl] at c18
    exact ⟨RD.fault hF1, by unfold chcF; rw [c18]; exact ⟨rfl, FaQ.of (k := 1) k3⟩⟩
theorem x_Re_readNeed {l : Launch} {g : kx_G} {d : Nat} {h : kx_Mem} (a : Nat) (b : Nat → Int32) (n i : Nat) (r : RU) (hR : RD a b n i r h) (hn10 : ruN r < 10) : kx_Sp l g m_Re_readNeed [.ref 3] h (d + 4) 0 0 (fun v h' => PoD a b n h v h' (neeF b n i r)) := by
  have hs := hR.1
  have hd := hR.2.2.2.2.1
  have ha := hR.2.2.2.2.2.1
  have hg := ha.g
  have hr := IsRu.of hs ha
  have hin := hR.2.2.1
  have ho := hR.2.2.2.2.2.2.1
  have oa := hr.2.2.2.2.2.2.2.2.2.2.2.2.2.2.2.2.2
  have o16 := ho.1
  refine kx_enter_e (lv := [_, _, _]) (by decide +kernel) (Nat.le_of_ble_eq_true rfl) rfl ?_
  refine kx_aload_n (pc := 0) (kx_dd d_Re_readNeed 0 rfl) rfl rfl ?_
  refine kx_invV (pc := 1) (a := 3) (as := []) (kx_dd d_Re_readNeed 1 rfl) ⟨lk_Re_127, wi_Re_readWord, we_Re_readWord⟩ w_Re_readWord (hs.k 3 rfl) rfl rfl rfl rfl (Nat.le_of_ble_eq_true rfl) (x_Re_readWord (d := d) a b n i r hR) (Nat.le_refl _) ⟨Nat.le_refl _, Nat.le_refl _⟩ (fun v h' hq => ?_)
  revert h'
  intro h1 hq
  obtain ⟨hF1, hqa, hqb⟩ := hq
  by_cases hw1 : tK b n i = 1
  · skip
    obtain ⟨rfl, hR1, hwd, hpl⟩ := hqa hw1
    have hw9 := tW_lt hR.2.2.1 hw1
    have hs := hR1.1
    have hd := hR1.2.2.2.2.1
    have hr := IsRu.of hs hR1.2.2.2.2.2.1
    refine kx_if_ne (pc := 4) (tgt := 9) (kx_dd d_Re_readNeed 2 rfl) rfl (fun c4 => ?_) (fun c4 => ?_)
    · refine kx_aload_n (pc := 9) (kx_dd d_Re_readNeed 5 rfl) rfl rfl ?_
      refine kx_getR (pc := 10) (b := 1) fl_Re_22 (hs.k 3 rfl) rfl (hs.r 10 rfl) (kx_dd d_Re_readNeed 6 rfl) ?_
      refine kx_getL (pc := 13) fl_Re_130 (hs.k 1 rfl) rfl (kx_dd d_Re_readNeed 7 rfl) ?_
      rw [hwd]
      refine kx_lstore_ne (pc := 16) (lv' := [_, _, _]) (kx_dd d_Re_readNeed 8 rfl) rfl (Nat.le_of_ble_eq_true rfl) rfl ?_
      refine kx_aload_n (pc := 17) (kx_dd d_Re_readNeed 9 rfl) rfl rfl ?_
      refine kx_getR (pc := 18) (b := a) fl_Re_12 (hs.k 3 rfl) rfl hd (kx_dd d_Re_readNeed 10 rfl) ?_
      refine kx_lload_n (pc := 21) (kx_dd d_Re_readNeed 11 rfl) rfl rfl ?_
      refine kx_invV (pc := 22) (a := a) (as := [_]) (kx_dd d_Re_readNeed 12 rfl) ⟨lk_Re_145, wi_Ru_isNeedTold, we_Ru_isNeedTold⟩ w_Ru_isNeedTold (congrArg Prod.fst hr.1) rfl rfl rfl rfl (Nat.le_of_ble_eq_true rfl) (x_Ru_isNeedTold (d := d + 2) a hr r ho hR1.2.2.2.2.2.2.2.1 (tW b n i) hw9.2) (Nat.le_refl _) ⟨Nat.le_refl _, Nat.le_refl _⟩ (fun v h' hq => ?_)
      obtain ⟨rfl, he⟩ := hq
      rw [he]
      clear he
      refine kx_if_eq (pc := 25) (tgt := 34) (kx_dd d_Re_readNeed 13 rfl) rfl (fun c25 => ?_) (fun c25 => ?_)
      · refine kx_aload_n (pc := 34) (kx_dd d_Re_readNeed 18 rfl) rfl rfl ?_
        refine kx_iconst (pc := 35) (v := 0) (kx_dd d_Re_readNeed 19 rfl) rfl ?_
        refine kx_sipush (pc := 36) (v := 999) (kx_dd d_Re_readNeed 20 rfl) rfl ?_
        refine kx_invV (pc := 39) (a := 3) (as := [_, _]) (kx_dd d_Re_readNeed 21 rfl) ⟨lk_Re_111, wi_Re_readNumber, we_Re_readNumber⟩ w_Re_readNumber (hs.k 3 rfl) rfl rfl rfl rfl (Nat.le_of_ble_eq_true rfl) (x_Re_readNumber (d := d) a b n (tE b n i) r hR1 0 999 (by omega) (by omega)) (Nat.le_refl _) ⟨Nat.le_refl _, Nat.le_refl _⟩ (fun v h' hq => ?_)
        revert h'
        intro h2 hq
        obtain ⟨hF2, hq⟩ := hq
        cases hN : numF b n (tE b n i) 0 999 with
        | inl f =>
          rw [hN] at hq
          obtain ⟨rfl, hfa⟩ := hq
          refine kx_if_ne (pc := 42) (tgt := 47) (kx_dd d_Re_readNeed 22 rfl) rfl (fun c42 => ?_) (fun c42 => ?_)
          · exact absurd rfl c42
          · refine kx_iconst (pc := 45) (v := 0) (kx_dd d_Re_readNeed 23 rfl) rfl ?_
            refine kx_zret (pc := 46) rfl rfl (kx_dd d_Re_readNeed 24 rfl) (Nat.le_refl _) (Nat.le_refl _) ?_
            rw [bP_0, Classical.not_not] at c25
            exact ⟨hF1.tr hF2, by unfold neeF; rw [if_pos hw1, if_pos c25, hN]; exact ⟨rfl, hfa⟩⟩
        | inr q9 =>
          rw [hN] at hq
          obtain ⟨rfl, hR2, hx5⟩ := hq
          have hs := hR2.1
          have hd := hR2.2.2.2.2.1
          have hr := IsRu.of hs hR2.2.2.2.2.2.1
          refine kx_if_ne (pc := 42) (tgt := 47) (kx_dd d_Re_readNeed 22 rfl) rfl (fun c42 => ?_) (fun c42 => ?_)
          · refine kx_aload_n (pc := 47) (kx_dd d_Re_readNeed 25 rfl) rfl rfl ?_
            refine kx_getR (pc := 48) (b := a) fl_Re_12 (hs.k 3 rfl) rfl hd (kx_dd d_Re_readNeed 26 rfl) ?_
            refine kx_lload_n (pc := 51) (kx_dd d_Re_readNeed 27 rfl) rfl rfl ?_
            refine kx_aload_n (pc := 52) (kx_dd d_Re_readNeed 28 rfl) rfl rfl ?_
            refine kx_getR (pc := 53) (b := 1) fl_Re_22 (hs.k 3 rfl) rfl (hs.r 10 rfl) (kx_dd d_Re_readNeed 29 rfl) ?_
            refine kx_getI (pc := 56) fl_Re_115 (hs.k 1 rfl) rfl (kx_dd d_Re_readNeed 30 rfl) ?_
            rw [hx5]
            refine kx_invV (pc := 59) (a := a) (as := [_, _]) (kx_dd d_Re_readNeed 31 rfl) ⟨lk_Re_148, wi_Ru_addNeed, we_Ru_addNeed⟩ w_Ru_addNeed (congrArg Prod.fst hr.1) rfl rfl rfl rfl (Nat.le_of_ble_eq_true rfl) (x_Ru_addNeed (d := d + 3) a hr r ho hR2.2.2.2.2.2.2.2.1 (tW b n i) (nI q9.1) hn10) (Nat.le_refl _) ⟨Nat.le_refl _, Nat.le_refl _⟩ (fun v h' hq => ?_)
            revert h'
            intro h3 hq
            obtain ⟨rfl, rfl⟩ := hq
            refine kx_iconst (pc := 62) (v := 1) (kx_dd d_Re_readNeed 32 rfl) rfl ?_
            refine kx_zret (pc := 63) rfl rfl (kx_dd d_Re_readNeed 33 rfl) (Nat.le_refl _) (Nat.le_refl _) ?_
            rw [bP_0, Classical.not_not] at c25
            have hx9 : q9.1 ≤ 999 := by
              have := hN
              unfold numF at this
              split at this
              · split at this
                next z => cases this; exact z.2
                · cases this
              · cases this
            obtain ⟨hR3, hF3⟩ := hR2.put (r' := ruNee r (tW b n i) q9.1) (((kx_Fg.setL ⟨by omega, by omega⟩).tr (kx_Fg.setI ⟨by omega, by omega⟩)).tr (kx_Fg.setI ⟨by omega, by omega⟩)) (ho.nee hw9.2 hx9 hn10) hR2.2.2.2.2.2.2.2.1.nee
            exact ⟨(hF1.tr hF2).tr hF3, by unfold neeF; rw [if_pos hw1, if_pos c25, hN]; exact ⟨rfl, hR3⟩⟩
          · exact absurd c42 (by decide)
      · refine kx_aload_n (pc := 28) (kx_dd d_Re_readNeed 14 rfl) rfl rfl ?_
        refine kx_iconst (pc := 29) (v := 3) (kx_dd d_Re_readNeed 15 rfl) rfl ?_
        refine kx_invV (pc := 30) (a := 3) (as := [_]) (kx_dd d_Re_readNeed 16 rfl) ⟨lk_Re_63, wi_Re_refuse, we_Re_refuse⟩ w_Re_refuse (hs.k 3 rfl) rfl rfl rfl rfl (Nat.le_of_ble_eq_true rfl) (x_Re_refuse (d := d + 3) hs (nI 3)) (Nat.le_refl _) ⟨Nat.le_refl _, Nat.le_refl _⟩ (fun v h' hq => ?_)
        revert h'
        intro h9 hq
        obtain ⟨rfl, rfl⟩ := hq
        refine kx_zret (pc := 33) rfl rfl (kx_dd d_Re_readNeed 17 rfl) (Nat.le_refl _) (Nat.le_refl _) ?_
        rw [bP_0, Classical.not_not] at c25
        exact ⟨RD.fault hF1, by unfold neeF; rw [if_pos hw1, if_neg c25]; exact ⟨rfl, FaQ.of (k := 3) hpl⟩⟩
    · exact absurd c4 (by decide)
  · skip
    obtain ⟨rfl, hfa⟩ := hqb hw1
    refine kx_if_ne (pc := 4) (tgt := 9) (kx_dd d_Re_readNeed 2 rfl) rfl (fun c4 => ?_) (fun c4 => ?_)
    · exact absurd rfl c4
    · refine kx_iconst (pc := 7) (v := 0) (kx_dd d_Re_readNeed 3 rfl) rfl ?_
      refine kx_zret (pc := 8) rfl rfl (kx_dd d_Re_readNeed 4 rfl) (Nat.le_refl _) (Nat.le_refl _) ?_
      exact ⟨hF1, by unfold neeF; rw [if_neg hw1]; exact ⟨rfl, hfa⟩⟩
theorem kdF_M {b : Nat → Int32} {n i : Nat} {r : RU} {q : Nat × RU × Nat} (h : kdF b n i r = .inr q) : (ruM q.2.1).length = (ruM r).length := by
  unfold kdF at h
  split at h
  · split at h
    · cases h; rfl
    · split at h
      · cases h
      · cases h; rfl
  · cases h
theorem kdF_E {b : Nat → Int32} {n i : Nat} {r : RU} {q : Nat × RU × Nat} (h : kdF b n i r = .inr q) : (ruE q.2.1).length = (ruE r).length ∧ ruK r ≤ ruK q.2.1 := by
  unfold kdF at h
  split at h
  · split at h
    · cases h; exact ⟨rfl, Nat.le_refl _⟩
    · split at h
      · cases h
      · cases h; exact ⟨rfl, Nat.le_succ _⟩
  · cases h
theorem x_Re_readMust {l : Launch} {g : kx_G} {d : Nat} {h : kx_Mem} (a : Nat) (b : Nat → Int32) (n i : Nat) (r : RU) (hR : RD a b n i r h) (hm10 : (ruM r).length < 10) : kx_Sp l g m_Re_readMust [.ref 3] h (d + 5) 0 0 (fun v h' => PoD a b n h v h' (musF b n i r)) := by
  have hs := hR.1
  have hd := hR.2.2.2.2.1
  have ha := hR.2.2.2.2.2.1
  have hg := ha.g
  have hr := IsRu.of hs ha
  have hin := hR.2.2.1
  have ho := hR.2.2.2.2.2.2.1
  have oa := hr.2.2.2.2.2.2.2.2.2.2.2.2.2.2.2.2.2
  have o16 := ho.1
  refine kx_enter_e (lv := [_, _, _, _]) (by decide +kernel) (Nat.le_of_ble_eq_true rfl) rfl ?_
  refine kx_aload_n (pc := 0) (kx_dd d_Re_readMust 0 rfl) rfl rfl ?_
  refine kx_invV (pc := 1) (a := 3) (as := []) (kx_dd d_Re_readMust 1 rfl) ⟨lk_Re_127, wi_Re_readWord, we_Re_readWord⟩ w_Re_readWord (hs.k 3 rfl) rfl rfl rfl rfl (Nat.le_of_ble_eq_true rfl) (x_Re_readWord (d := d + 1) a b n i r hR) (Nat.le_refl _) ⟨Nat.le_refl _, Nat.le_refl _⟩ (fun v h' hq => ?_)
  revert h'
  intro h1 hq
  obtain ⟨hF1, hqa, hqb⟩ := hq
  by_cases hw1 : tK b n i = 1
  · skip
    obtain ⟨rfl, hR1, hwd, hpl⟩ := hqa hw1
    have hw9 := tW_lt hR.2.2.1 hw1
    have hs := hR1.1
    have hd := hR1.2.2.2.2.1
    have hr := IsRu.of hs hR1.2.2.2.2.2.1
    refine kx_if_ne (pc := 4) (tgt := 9) (kx_dd d_Re_readMust 2 rfl) rfl (fun c4 => ?_) (fun c4 => ?_)
    · refine kx_aload_n (pc := 9) (kx_dd d_Re_readMust 5 rfl) rfl rfl ?_
      refine kx_getR (pc := 10) (b := 1) fl_Re_22 (hs.k 3 rfl) rfl (hs.r 10 rfl) (kx_dd d_Re_readMust 6 rfl) ?_
      refine kx_getL (pc := 13) fl_Re_130 (hs.k 1 rfl) rfl (kx_dd d_Re_readMust 7 rfl) ?_
      rw [hwd]
      refine kx_lstore_ne (pc := 16) (lv' := [_, _, _, _]) (kx_dd d_Re_readMust 8 rfl) rfl (Nat.le_of_ble_eq_true rfl) rfl ?_
      refine kx_aload_n (pc := 17) (kx_dd d_Re_readMust 9 rfl) rfl rfl ?_
      refine kx_invV (pc := 18) (a := 3) (as := []) (kx_dd d_Re_readMust 10 rfl) ⟨lk_Re_152, wi_Re_readKind, we_Re_readKind⟩ w_Re_readKind (hs.k 3 rfl) rfl rfl rfl rfl (Nat.le_of_ble_eq_true rfl) (x_Re_readKind (d := d) a b n (tE b n i) r hR1) (Nat.le_refl _) ⟨Nat.le_refl _, Nat.le_refl _⟩ (fun v h' hq => ?_)
      revert h'
      intro h2 hq
      obtain ⟨hF2, hq⟩ := hq
      cases hK : kdF b n (tE b n i) r with
      | inl f =>
        rw [hK] at hq
        obtain ⟨rfl, hfa⟩ := hq
        refine kx_istore_ne (pc := 21) (lv' := [_, _, _, _]) (kx_dd d_Re_readMust 11 rfl) rfl (Nat.le_of_ble_eq_true rfl) rfl ?_
        refine kx_iload_n (pc := 22) (kx_dd d_Re_readMust 12 rfl) rfl rfl ?_
        refine kx_iconst (pc := 23) (v := -1) (kx_dd d_Re_readMust 13 rfl) rfl ?_
        refine kx_icmp_ne (pc := 24) (tgt := 29) (kx_dd d_Re_readMust 14 rfl) rfl (fun c24 => ?_) (fun c24 => ?_)
        · exact absurd rfl c24
        · refine kx_iconst (pc := 27) (v := 0) (kx_dd d_Re_readMust 15 rfl) rfl ?_
          refine kx_zret (pc := 28) rfl rfl (kx_dd d_Re_readMust 16 rfl) (Nat.le_refl _) (Nat.le_refl _) ?_
          exact ⟨hF1.tr hF2, by unfold musF; rw [if_pos hw1, hK]; exact ⟨rfl, hfa⟩⟩
      | inr q9 =>
        rw [hK] at hq
        obtain ⟨rfl, hR2, hltq9⟩ := hq
        have okq9 := hR2.2.2.2.2.2.2.1
        have ok16q9 := okq9.1
        have hs := hR2.1
        have hd := hR2.2.2.2.2.1
        have hr := IsRu.of hs hR2.2.2.2.2.2.1
        refine kx_istore_ne (pc := 21) (lv' := [_, _, _, _]) (kx_dd d_Re_readMust 11 rfl) rfl (Nat.le_of_ble_eq_true rfl) rfl ?_
        refine kx_iload_n (pc := 22) (kx_dd d_Re_readMust 12 rfl) rfl rfl ?_
        refine kx_iconst (pc := 23) (v := -1) (kx_dd d_Re_readMust 13 rfl) rfl ?_
        refine kx_icmp_ne (pc := 24) (tgt := 29) (kx_dd d_Re_readMust 14 rfl) rfl (fun c24 => ?_) (fun c24 => ?_)
        · have hmk : (ruM q9.2.1).length = (ruM r).length := kdF_M hK
          refine kx_aload_n (pc := 29) (kx_dd d_Re_readMust 17 rfl) rfl rfl ?_
          refine kx_getR (pc := 30) (b := a) fl_Re_12 (hs.k 3 rfl) rfl hd (kx_dd d_Re_readMust 18 rfl) ?_
          refine kx_lload_n (pc := 33) (kx_dd d_Re_readMust 19 rfl) rfl rfl ?_
          refine kx_iload_n (pc := 34) (kx_dd d_Re_readMust 20 rfl) rfl rfl ?_
          refine kx_invV (pc := 35) (a := a) (as := [_, _]) (kx_dd d_Re_readMust 21 rfl) ⟨lk_Re_156, wi_Ru_addMust, we_Ru_addMust⟩ w_Ru_addMust (congrArg Prod.fst hr.1) rfl rfl rfl rfl (Nat.le_of_ble_eq_true rfl) (x_Ru_addMust (d := d + 3) a hr q9.2.1 okq9 hR2.2.2.2.2.2.2.2.1 (tW b n i) q9.1 (by omega) (by rw [hmk]; exact hm10)) (Nat.le_refl _) ⟨Nat.le_refl _, Nat.le_refl _⟩ (fun v h' hq => ?_)
          revert h'
          intro h3 hq
          obtain ⟨rfl, rfl⟩ := hq
          refine kx_iconst (pc := 38) (v := 1) (kx_dd d_Re_readMust 22 rfl) rfl ?_
          refine kx_zret (pc := 39) rfl rfl (kx_dd d_Re_readMust 23 rfl) (Nat.le_refl _) (Nat.le_refl _) ?_
          obtain ⟨hR3, hF3⟩ := hR2.put (r' := ruDem q9.2.1 (false, tW b n i, q9.1, q9.1)) (((kx_Fg.setL ⟨by omega, by omega⟩).tr (kx_Fg.setI ⟨by omega, by omega⟩)).tr (kx_Fg.setI ⟨by omega, by omega⟩)) (okq9.dem hw9.2 hltq9 hltq9 (fun _ => rfl) (fun _ => by rw [hmk]; exact hm10) (fun z => by cases z)) hR2.2.2.2.2.2.2.2.1.dem
          exact ⟨(hF1.tr hF2).tr hF3, by unfold musF; rw [if_pos hw1, hK]; exact ⟨rfl, hR3⟩⟩
        · exact absurd c24 (nI_m2 (by omega))
    · exact absurd c4 (by decide)
  · skip
    obtain ⟨rfl, hfa⟩ := hqb hw1
    refine kx_if_ne (pc := 4) (tgt := 9) (kx_dd d_Re_readMust 2 rfl) rfl (fun c4 => ?_) (fun c4 => ?_)
    · exact absurd rfl c4
    · refine kx_iconst (pc := 7) (v := 0) (kx_dd d_Re_readMust 3 rfl) rfl ?_
      refine kx_zret (pc := 8) rfl rfl (kx_dd d_Re_readMust 4 rfl) (Nat.le_refl _) (Nat.le_refl _) ?_
      exact ⟨hF1, by unfold musF; rw [if_neg hw1]; exact ⟨rfl, hfa⟩⟩
theorem x_Re_readEither {l : Launch} {g : kx_G} {d : Nat} {h : kx_Mem} (a : Nat) (b : Nat → Int32) (n i : Nat) (r : RU) (hR : RD a b n i r h) (he10 : (ruE r).length < 10) : kx_Sp l g m_Re_readEither [.ref 3] h (d + 5) 0 0 (fun v h' => PoD a b n h v h' (eitF b n i r)) := by
  have hs := hR.1
  have hd := hR.2.2.2.2.1
  have ha := hR.2.2.2.2.2.1
  have hg := ha.g
  have hr := IsRu.of hs ha
  have hin := hR.2.2.1
  have ho := hR.2.2.2.2.2.2.1
  have oa := hr.2.2.2.2.2.2.2.2.2.2.2.2.2.2.2.2.2
  have o16 := ho.1
  refine kx_enter_e (lv := [_, _, _, _, _]) (by decide +kernel) (Nat.le_of_ble_eq_true rfl) rfl ?_
  refine kx_aload_n (pc := 0) (kx_dd d_Re_readEither 0 rfl) rfl rfl ?_
  refine kx_invV (pc := 1) (a := 3) (as := []) (kx_dd d_Re_readEither 1 rfl) ⟨lk_Re_127, wi_Re_readWord, we_Re_readWord⟩ w_Re_readWord (hs.k 3 rfl) rfl rfl rfl rfl (Nat.le_of_ble_eq_true rfl) (x_Re_readWord (d := d + 1) a b n i r hR) (Nat.le_refl _) ⟨Nat.le_refl _, Nat.le_refl _⟩ (fun v h' hq => ?_)
  revert h'
  intro h1 hq
  obtain ⟨hF1, hqa, hqb⟩ := hq
  by_cases hw1 : tK b n i = 1
  · skip
    obtain ⟨rfl, hR1, hwd, hpl⟩ := hqa hw1
    have hw9 := tW_lt hR.2.2.1 hw1
    have hs := hR1.1
    have hd := hR1.2.2.2.2.1
    have hr := IsRu.of hs hR1.2.2.2.2.2.1
    refine kx_if_ne (pc := 4) (tgt := 9) (kx_dd d_Re_readEither 2 rfl) rfl (fun c4 => ?_) (fun c4 => ?_)
    · refine kx_aload_n (pc := 9) (kx_dd d_Re_readEither 5 rfl) rfl rfl ?_
      refine kx_getR (pc := 10) (b := 1) fl_Re_22 (hs.k 3 rfl) rfl (hs.r 10 rfl) (kx_dd d_Re_readEither 6 rfl) ?_
      refine kx_getL (pc := 13) fl_Re_130 (hs.k 1 rfl) rfl (kx_dd d_Re_readEither 7 rfl) ?_
      rw [hwd]
      refine kx_lstore_ne (pc := 16) (lv' := [_, _, _, _, _]) (kx_dd d_Re_readEither 8 rfl) rfl (Nat.le_of_ble_eq_true rfl) rfl ?_
      refine kx_aload_n (pc := 17) (kx_dd d_Re_readEither 9 rfl) rfl rfl ?_
      refine kx_invV (pc := 18) (a := 3) (as := []) (kx_dd d_Re_readEither 10 rfl) ⟨lk_Re_152, wi_Re_readKind, we_Re_readKind⟩ w_Re_readKind (hs.k 3 rfl) rfl rfl rfl rfl (Nat.le_of_ble_eq_true rfl) (x_Re_readKind (d := d) a b n (tE b n i) r hR1) (Nat.le_refl _) ⟨Nat.le_refl _, Nat.le_refl _⟩ (fun v h' hq => ?_)
      revert h'
      intro h2 hq
      obtain ⟨hF2, hq⟩ := hq
      cases hK : kdF b n (tE b n i) r with
      | inl f =>
        rw [hK] at hq
        obtain ⟨rfl, hfa⟩ := hq
        refine kx_istore_ne (pc := 21) (lv' := [_, _, _, _, _]) (kx_dd d_Re_readEither 11 rfl) rfl (Nat.le_of_ble_eq_true rfl) rfl ?_
        refine kx_iload_n (pc := 22) (kx_dd d_Re_readEither 12 rfl) rfl rfl ?_
        refine kx_iconst (pc := 23) (v := -1) (kx_dd d_Re_readEither 13 rfl) rfl ?_
        refine kx_icmp_ne (pc := 24) (tgt := 31) (kx_dd d_Re_readEither 14 rfl) rfl (fun c24 => ?_) (fun c24 => ?_)
        · exact absurd rfl c24
        · refine kx_iconst (pc := 27) (v := -1) (kx_dd d_Re_readEither 15 rfl) rfl ?_
          refine kx_goto (pc := 28) (tgt := 35) (kx_dd d_Re_readEither 16 rfl) rfl ?_
          refine kx_istore_e (pc := 35) (lv' := [_, _, _, _, _]) (kx_dd d_Re_readEither 19 rfl) (Nat.le_of_ble_eq_true rfl) rfl ?_
          refine kx_iload (pc := 37) (kx_dd d_Re_readEither 20 rfl) rfl ?_
          refine kx_iconst (pc := 39) (v := -1) (kx_dd d_Re_readEither 21 rfl) rfl ?_
          refine kx_icmp_ne (pc := 40) (tgt := 45) (kx_dd d_Re_readEither 22 rfl) rfl (fun c40 => ?_) (fun c40 => ?_)
          · exact absurd rfl c40
          · refine kx_iconst (pc := 43) (v := 0) (kx_dd d_Re_readEither 23 rfl) rfl ?_
            refine kx_zret (pc := 44) rfl rfl (kx_dd d_Re_readEither 24 rfl) (Nat.le_refl _) (Nat.le_refl _) ?_
            exact ⟨hF1.tr hF2, by unfold eitF; rw [if_pos hw1, hK]; exact ⟨rfl, hfa⟩⟩
      | inr q9 =>
        rw [hK] at hq
        obtain ⟨rfl, hR2, hltq9⟩ := hq
        have okq9 := hR2.2.2.2.2.2.2.1
        have ok16q9 := okq9.1
        have hs := hR2.1
        have hd := hR2.2.2.2.2.1
        have hr := IsRu.of hs hR2.2.2.2.2.2.1
        refine kx_istore_ne (pc := 21) (lv' := [_, _, _, _, _]) (kx_dd d_Re_readEither 11 rfl) rfl (Nat.le_of_ble_eq_true rfl) rfl ?_
        refine kx_iload_n (pc := 22) (kx_dd d_Re_readEither 12 rfl) rfl rfl ?_
        refine kx_iconst (pc := 23) (v := -1) (kx_dd d_Re_readEither 13 rfl) rfl ?_
        refine kx_icmp_ne (pc := 24) (tgt := 31) (kx_dd d_Re_readEither 14 rfl) rfl (fun c24 => ?_) (fun c24 => ?_)
        · refine kx_aload_n (pc := 31) (kx_dd d_Re_readEither 17 rfl) rfl rfl ?_
          refine kx_invV (pc := 32) (a := 3) (as := []) (kx_dd d_Re_readEither 18 rfl) ⟨lk_Re_152, wi_Re_readKind, we_Re_readKind⟩ w_Re_readKind (hs.k 3 rfl) rfl rfl rfl rfl (Nat.le_of_ble_eq_true rfl) (x_Re_readKind (d := d) a b n q9.2.2 q9.2.1 hR2) (Nat.le_refl _) ⟨Nat.le_refl _, Nat.le_refl _⟩ (fun v h' hq => ?_)
          revert h'
          intro h3 hq
          obtain ⟨hF3, hq⟩ := hq
          cases hK2 : kdF b n q9.2.2 q9.2.1 with
          | inl f =>
            rw [hK2] at hq
            obtain ⟨rfl, hfa⟩ := hq
            refine kx_istore_e (pc := 35) (lv' := [_, _, _, _, _]) (kx_dd d_Re_readEither 19 rfl) (Nat.le_of_ble_eq_true rfl) rfl ?_
            refine kx_iload (pc := 37) (kx_dd d_Re_readEither 20 rfl) rfl ?_
            refine kx_iconst (pc := 39) (v := -1) (kx_dd d_Re_readEither 21 rfl) rfl ?_
            refine kx_icmp_ne (pc := 40) (tgt := 45) (kx_dd d_Re_readEither 22 rfl) rfl (fun c40 => ?_) (fun c40 => ?_)
            · exact absurd rfl c40
            · refine kx_iconst (pc := 43) (v := 0) (kx_dd d_Re_readEither 23 rfl) rfl ?_
              refine kx_zret (pc := 44) rfl rfl (kx_dd d_Re_readEither 24 rfl) (Nat.le_refl _) (Nat.le_refl _) ?_
              exact ⟨(hF1.tr hF2).tr hF3, by unfold eitF; rw [if_pos hw1, hK]; simp only [hK2]; exact ⟨trivial, hfa⟩⟩
          | inr z9 =>
            rw [hK2] at hq
            obtain ⟨rfl, hR3, hltz9⟩ := hq
            have okz9 := hR3.2.2.2.2.2.2.1
            have ok16z9 := okz9.1
            have hs := hR3.1
            have hd := hR3.2.2.2.2.1
            have hr := IsRu.of hs hR3.2.2.2.2.2.1
            refine kx_istore_e (pc := 35) (lv' := [_, _, _, _, _]) (kx_dd d_Re_readEither 19 rfl) (Nat.le_of_ble_eq_true rfl) rfl ?_
            refine kx_iload (pc := 37) (kx_dd d_Re_readEither 20 rfl) rfl ?_
            refine kx_iconst (pc := 39) (v := -1) (kx_dd d_Re_readEither 21 rfl) rfl ?_
            refine kx_icmp_ne (pc := 40) (tgt := 45) (kx_dd d_Re_readEither 22 rfl) rfl (fun c40 => ?_) (fun c40 => ?_)
            · have hme : (ruE z9.2.1).length = (ruE r).length := (kdF_E hK2).1.trans (kdF_E hK).1
              have hkk := (kdF_E hK2).2
              refine kx_aload_n (pc := 45) (kx_dd d_Re_readEither 25 rfl) rfl rfl ?_
              refine kx_getR (pc := 46) (b := a) fl_Re_12 (hs.k 3 rfl) rfl hd (kx_dd d_Re_readEither 26 rfl) ?_
              refine kx_lload_n (pc := 49) (kx_dd d_Re_readEither 27 rfl) rfl rfl ?_
              refine kx_iload_n (pc := 50) (kx_dd d_Re_readEither 28 rfl) rfl rfl ?_
              refine kx_iload (pc := 51) (kx_dd d_Re_readEither 29 rfl) rfl ?_
              refine kx_invV (pc := 53) (a := a) (as := [_, _, _]) (kx_dd d_Re_readEither 30 rfl) ⟨lk_Re_159, wi_Ru_addEither, we_Ru_addEither⟩ w_Ru_addEither (congrArg Prod.fst hr.1) rfl rfl rfl rfl (Nat.le_of_ble_eq_true rfl) (x_Ru_addEither (d := d + 3) a hr z9.2.1 okz9 hR3.2.2.2.2.2.2.2.1 (tW b n i) q9.1 z9.1 (by omega) (by omega) (by rw [hme]; exact he10)) (Nat.le_refl _) ⟨Nat.le_refl _, Nat.le_refl _⟩ (fun v h' hq => ?_)
              revert h'
              intro h4 hq
              obtain ⟨rfl, rfl⟩ := hq
              refine kx_iconst (pc := 56) (v := 1) (kx_dd d_Re_readEither 31 rfl) rfl ?_
              refine kx_zret (pc := 57) rfl rfl (kx_dd d_Re_readEither 32 rfl) (Nat.le_refl _) (Nat.le_refl _) ?_
              obtain ⟨hR4, hF4⟩ := hR3.put (r' := ruDem z9.2.1 (true, tW b n i, q9.1, z9.1)) (((kx_Fg.setL ⟨by omega, by omega⟩).tr (kx_Fg.setI ⟨by omega, by omega⟩)).tr (kx_Fg.setI ⟨by omega, by omega⟩)) (okz9.dem hw9.2 (by show q9.1 < _; omega) hltz9 (fun z => by cases z) (fun z => by cases z) (fun _ => by rw [hme]; exact he10)) hR3.2.2.2.2.2.2.2.1.dem
              exact ⟨((hF1.tr hF2).tr hF3).tr hF4, by unfold eitF; rw [if_pos hw1, hK]; simp only [hK2]; exact ⟨trivial, hR4⟩⟩
            · exact absurd c40 (nI_m2 (by omega))
        · exact absurd c24 (nI_m2 (by omega))
    · exact absurd c4 (by decide)
  · skip
    obtain ⟨rfl, hfa⟩ := hqb hw1
    refine kx_if_ne (pc := 4) (tgt := 9) (kx_dd d_Re_readEither 2 rfl) rfl (fun c4 => ?_) (fun c4 => ?_)
    · exact absurd rfl c4
    · refine kx_iconst (pc := 7) (v := 0) (kx_dd d_Re_readEither 3 rfl) rfl ?_
      refine kx_zret (pc := 8) rfl rfl (kx_dd d_Re_readEither 4 rfl) (Nat.le_refl _) (Nat.le_refl _) ?_
      exact ⟨hF1, by unfold eitF; rw [if_neg hw1]; exact ⟨rfl, hfa⟩⟩
