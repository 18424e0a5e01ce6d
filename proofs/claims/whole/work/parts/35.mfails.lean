/-! the reference: what fails -/
def CSm (s : CSt) (n : Nat) (T : Nat → Nat) (h : kx_Mem) : Prop := h.1 84 51 = nI s.1 ∧ ∀ c, c < s.1 → (∀ j, j < 17 → j ≠ 5 → j ≠ 6 → h.1 (122 + j) c = s.2.1 c j) ∧ h.1 128 c = s.2.1 c 5 ∧ wdI n T (s.2.2 c) (h.1 127 c)
def FSm (s : FSt) (n : Nat) (T : Nat → Nat) (h : kx_Mem) : Prop := h.1 84 52 = nI s.1 ∧ ∀ k, k < s.1 → h.1 139 k = nI (s.2.1 k) ∧ wdI n T (s.2.2.1 k) (h.1 140 k) ∧ h.1 141 k = nI (s.2.2.2.1 k) - 1 ∧ h.1 142 k = nI (s.2.2.2.2.1 k) ∧ h.1 143 k = nI (s.2.2.2.2.2 k)
def DKm (D : DK) (n : Nat) (T : Nat → Nat) (h : kx_Mem) : Prop := PSm D.1 h ∧ TSm D.2.1 h ∧ CSm D.2.2.1 n T h ∧ FSm D.2.2.2 n T h
theorem pf_or {r : RU} {w m x : Nat} : x ||| pfN r w m = orC (¬ metP r w m) 16 (orC (ptF r m < nedF r w) 8 x) := by
  unfold pfN orC
  by_cases h1 : ptF r m < nedF r w <;> by_cases h2 : metP r w m <;> simp [h1, h2, Nat.or_assoc]
theorem orC_c {c c' : Prop} {b b' x : Nat} : orC c b (orC c' b' x) = orC c' b' (orC c b x) := by
  unfold orC
  by_cases h1 : c <;> by_cases h2 : c' <;> simp [h1, h2, Nat.or_assoc, Nat.or_comm b b']
theorem faiF_m {D : DK} {r : RU} {c kn : Nat} : f32N D c (f4N D r c kn (f2N D r c (f1N D r c 0))) ||| pfN r (D.2.2.1.2.2 c) (hadF D r c kn) = faiF D r c kn := by
  rw [pf_or]
  unfold faiF f32N f16N f8N
  rw [orC_c (c' := cN D.2.2.1 c 8 = 3), orC_c (c' := cN D.2.2.1 c 8 = 3)]
theorem y_isClaim {l : Launch} {g : kx_G} {d : Nat} {h : kx_Mem} (hm : SM h) (nw : Nat) (T : Nat → Nat) (hwt : WTok nw T) (D : DK) (ho : DKok D) (hp : DKm D nw T h) (q : Int32) : kx_Sp l g m_Mo_isClaim [.ref 84, .int q] h (d + 1) 0 0 (fun v h' => v = some (.int (bP (0 ≤ q ∧ q < nI D.2.2.1.1))) ∧ h' = h) := by
  have o60 := ho.2.2.1.1
  have o150 := ho.2.2.2.1
  have oP := ho.1.1
  have hn2 := hwt.1
  refine kx_enter_e (lv := [_, _]) (by decide +kernel) (Nat.le_of_ble_eq_true rfl) rfl ?_
  refine kx_iload_n (pc := 0) (kx_dd d_Mo_isClaim 0 rfl) rfl rfl ?_
  refine kx_i2l (pc := 1) (kx_dd d_Mo_isClaim 1 rfl) ?_
  refine kx_lconst (pc := 2) (v := 0) (kx_dd d_Mo_isClaim 2 rfl) rfl ?_
  refine kx_aload_n (pc := 3) (kx_dd d_Mo_isClaim 3 rfl) rfl rfl ?_
  refine kx_getI (pc := 4) fl_Mo_510 (hm.k 0 rfl) rfl (kx_dd d_Mo_isClaim 4 rfl) ?_
  rw [hp.2.2.1.1]
  refine kx_i2l (pc := 7) (kx_dd d_Mo_isClaim 5 rfl) ?_
  refine kx_lconst (pc := 8) (v := 1) (kx_dd d_Mo_isClaim 6 rfl) rfl ?_
  refine kx_lsub (pc := 9) (kx_dd d_Mo_isClaim 7 rfl) ?_
  refine kx_invS (pc := 10) (as := [_, _, _]) (kx_dd d_Mo_isClaim 8 rfl) ⟨lk_Mo_5, wt_Mo_in⟩ w_Mo_in rfl rfl (Nat.le_of_ble_eq_true rfl) (y_in (d := d) _ _ _) (Nat.le_refl _) ⟨Nat.le_refl _, Nat.le_refl _⟩ (fun v h' hq => ?_)
  obtain ⟨rfl, he⟩ := hq
  rw [he]
  clear he
  refine kx_zret (pc := 13) rfl (nar_bP _) (kx_dd d_Mo_isClaim 9 rfl) (Nat.le_refl _) (Nat.le_refl _) ?_
  exact ⟨congrArg _ (congrArg _ (bP_c (by rw [w_le0, w_pred (by omega)]))), rfl⟩
theorem y_isForged {l : Launch} {g : kx_G} {d : Nat} {h : kx_Mem} (hm : SM h) (nw : Nat) (T : Nat → Nat) (hwt : WTok nw T) (D : DK) (ho : DKok D) (hp : DKm D nw T h) (k : Nat) (hk : k < D.2.2.2.1) (kn : Nat) (hkn : kn < 2 ^ 31) : kx_Sp l g m_Mo_isForged [.ref 84, .int (nI k), .int (nI kn)] h (d + 2) 0 0 (fun v h' => v = some (.int (bP (forP D k kn))) ∧ h' = h) := by
  have o60 := ho.2.2.1.1
  have o150 := ho.2.2.2.1
  have oP := ho.1.1
  have hn2 := hwt.1
  have hpk := hp.2.2.2.2 k hk
  have opk := ho.2.2.2.2 k hk
  refine kx_enter_e (lv := [_, _, _]) (by decide +kernel) (Nat.le_of_ble_eq_true rfl) rfl ?_
  refine kx_aload_n (pc := 0) (kx_dd d_Mo_isForged 0 rfl) rfl rfl ?_
  refine kx_getR (pc := 1) (b := 141) fl_Mo_381 (hm.k 0 rfl) rfl (hm.r 56 rfl) (kx_dd d_Mo_isForged 1 rfl) ?_
  refine kx_iload_n (pc := 4) (kx_dd d_Mo_isForged 2 rfl) rfl rfl ?_
  refine kx_ialdn (pc := 5) k (hm.t 57 rfl) rfl (by omega) (by decide) (kx_dd d_Mo_isForged 3 rfl) ?_
  refine kx_iconst (pc := 6) (v := -1) (kx_dd d_Mo_isForged 4 rfl) rfl ?_
  refine kx_icmp_eq (pc := 7) (tgt := 34) (kx_dd d_Mo_isForged 5 rfl) rfl (fun c7 => ?_) (fun c7 => ?_)
  · refine kx_iconst (pc := 34) (v := 0) (kx_dd d_Mo_isForged 20 rfl) rfl ?_
    refine kx_zret (pc := 35) rfl rfl (kx_dd d_Mo_isForged 21 rfl) (Nat.le_refl _) (Nat.le_refl _) ?_
    rw [hpk.2.2.1, nI_m1 (by omega)] at c7
    exact ⟨by rw [bP_f (fun z => z.1 c7)], rfl⟩
  · refine kx_aload_n (pc := 10) (kx_dd d_Mo_isForged 6 rfl) rfl rfl ?_
    refine kx_aload_n (pc := 11) (kx_dd d_Mo_isForged 7 rfl) rfl rfl ?_
    refine kx_getR (pc := 12) (b := 141) fl_Mo_381 (hm.k 0 rfl) rfl (hm.r 56 rfl) (kx_dd d_Mo_isForged 8 rfl) ?_
    refine kx_iload_n (pc := 15) (kx_dd d_Mo_isForged 9 rfl) rfl rfl ?_
    refine kx_ialdn (pc := 16) k (hm.t 57 rfl) rfl (by omega) (by decide) (kx_dd d_Mo_isForged 10 rfl) ?_
    refine kx_aload_n (pc := 17) (kx_dd d_Mo_isForged 11 rfl) rfl rfl ?_
    refine kx_getR (pc := 18) (b := 142) fl_Mo_384 (hm.k 0 rfl) rfl (hm.r 57 rfl) (kx_dd d_Mo_isForged 12 rfl) ?_
    refine kx_iload_n (pc := 21) (kx_dd d_Mo_isForged 13 rfl) rfl rfl ?_
    refine kx_ialdn (pc := 22) k (hm.t 58 rfl) rfl (by omega) (by decide) (kx_dd d_Mo_isForged 14 rfl) ?_
    refine kx_iload_n (pc := 23) (kx_dd d_Mo_isForged 15 rfl) rfl rfl ?_
    rw [hpk.2.2.1, nI_m1 (by omega)] at c7
    rw [hpk.2.2.1, hpk.2.2.2.1, nI_m1' (by omega)]
    refine kx_invV (pc := 24) (a := 84) (as := [_, _, _]) (kx_dd d_Mo_isForged 16 rfl) ⟨lk_Mo_458, wi_Mo_isDead, we_Mo_isDead⟩ w_Mo_isDead (hm.k 0 rfl) rfl rfl rfl rfl (Nat.le_of_ble_eq_true rfl) (y_isDead (d := d) hm D.1 ho.1 hp.1 (D.2.2.2.2.2.2.1 k - 1) (D.2.2.2.2.2.2.2.1 k) kn (by omega) (by omega) hkn) (Nat.le_refl _) ⟨Nat.le_refl _, Nat.le_refl _⟩ (fun v h' hq => ?_)
    obtain ⟨rfl, he⟩ := hq
    rw [he]
    clear he
    refine kx_if_eq (pc := 27) (tgt := 34) (kx_dd d_Mo_isForged 17 rfl) rfl (fun c27 => ?_) (fun c27 => ?_)
    · refine kx_iconst (pc := 34) (v := 0) (kx_dd d_Mo_isForged 20 rfl) rfl ?_
      refine kx_zret (pc := 35) rfl rfl (kx_dd d_Mo_isForged 21 rfl) (Nat.le_refl _) (Nat.le_refl _) ?_
      rw [bP_0] at c27
      exact ⟨by rw [bP_f (fun z => c27 z.2)], rfl⟩
    · refine kx_iconst (pc := 30) (v := 1) (kx_dd d_Mo_isForged 18 rfl) rfl ?_
      refine kx_goto (pc := 31) (tgt := 35) (kx_dd d_Mo_isForged 19 rfl) rfl ?_
      refine kx_zret (pc := 35) rfl rfl (kx_dd d_Mo_isForged 21 rfl) (Nat.le_refl _) (Nat.le_refl _) ?_
      rw [bP_0, Classical.not_not] at c27
      exact ⟨by rw [bP_t ⟨c7, c27⟩], rfl⟩
theorem y_had_loop {l : Launch} {g : kx_G} {d : Nat} {h : kx_Mem} (hm : SM h) (nw : Nat) (T : Nat → Nat) (hwt : WTok nw T) (D : DK) (ho : DKok D) (hp : DKm D nw T h) (r : RU) (hro : RUok r) (v : Nat) (hv : v ≤ 4) (hrp : RUm r v nw T h) (c : Nat) (hc : c < D.2.2.1.1) (kn : Nat) (hkn : kn < 2 ^ 31) : ∀ n k, k + n = D.2.2.2.1 → ∀ w6, kx_X (l, g, m_Mo_hadOf, d + 3, 0, 0, (fun z9 h' => z9 = some (.int (nI (hadF D r c kn))) ∧ h' = h)) 0 0 6 [some (.ref 84), some (.int (nI c)), some (.int (nI v)), some (.int (nI kn)), some (.int (nI (hadK D r c kn k))), some (.int (nI k)), w6] [] (h) := by
  intro n
  induction n with
  | zero =>
    intro k hk w6
    have hk0 : k = D.2.2.2.1 := by omega
    subst hk0
    have o60 := ho.2.2.1.1
    have o150 := ho.2.2.2.1
    have oP := ho.1.1
    have hn2 := hwt.1
    refine kx_iload (pc := 6) (kx_dd d_Mo_hadOf 4 rfl) rfl ?_
    refine kx_aload_n (pc := 8) (kx_dd d_Mo_hadOf 5 rfl) rfl rfl ?_
    refine kx_getI (pc := 9) fl_Mo_525 (hm.k 0 rfl) rfl (kx_dd d_Mo_hadOf 6 rfl) ?_
    refine kx_icmp_ge (pc := 12) (tgt := 85) (kx_dd d_Mo_hadOf 7 rfl) rfl (fun c12 => ?_) (fun c12 => ?_)
    · refine kx_iload (pc := 85) (kx_dd d_Mo_hadOf 45 rfl) rfl ?_
      refine kx_iret (pc := 87) rfl (kx_dd d_Mo_hadOf 46 rfl) (Nat.le_refl _) (Nat.le_refl _) ?_
      exact ⟨rfl, rfl⟩
    · exact absurd (by rw [hp.2.2.2.1]; exact Int32.le_refl _) c12
  | succ n ih =>
    intro k hk w6
    have o60 := ho.2.2.1.1
    have o150 := ho.2.2.2.1
    have oP := ho.1.1
    have hn2 := hwt.1
    have hk : k < D.2.2.2.1 := by omega
    have hpk := hp.2.2.2.2 k hk
    have opk := ho.2.2.2.2 k hk
    obtain ⟨wi, wi1, wi2, wi3⟩ := hpk.2.1
    have hki : ∀ x, kiF r (D.2.2.2.2.2.1 k) = some x → x < 16 := fun x e => Nat.lt_of_lt_of_le (fnd_lt e).1 hro.1
    have hon : oI (kiF r (D.2.2.2.2.2.1 k)) = -1 ↔ kiF r (D.2.2.2.2.2.1 k) = none := oI_n (fun x e => by have := hki x e; omega)
    refine kx_iload (pc := 6) (kx_dd d_Mo_hadOf 4 rfl) rfl ?_
    refine kx_aload_n (pc := 8) (kx_dd d_Mo_hadOf 5 rfl) rfl rfl ?_
    refine kx_getI (pc := 9) fl_Mo_525 (hm.k 0 rfl) rfl (kx_dd d_Mo_hadOf 6 rfl) ?_
    refine kx_icmp_ge (pc := 12) (tgt := 85) (kx_dd d_Mo_hadOf 7 rfl) rfl (fun c12 => ?_) (fun c12 => ?_)
    · exact absurd c12 (by rw [hp.2.2.2.1]; exact nI_ge (by omega) (by omega))
    · refine kx_aload_n (pc := 15) (kx_dd d_Mo_hadOf 8 rfl) rfl rfl ?_
      refine kx_getR (pc := 16) (b := 139) fl_Mo_375 (hm.k 0 rfl) rfl (hm.r 54 rfl) (kx_dd d_Mo_hadOf 9 rfl) ?_
      refine kx_iload (pc := 19) (kx_dd d_Mo_hadOf 10 rfl) rfl ?_
      refine kx_ialdn (pc := 21) k (hm.t 55 rfl) rfl (by omega) (by decide) (kx_dd d_Mo_hadOf 11 rfl) ?_
      refine kx_iload_n (pc := 22) (kx_dd d_Mo_hadOf 12 rfl) rfl rfl ?_
      refine kx_icmp_ne (pc := 23) (tgt := 79) (kx_dd d_Mo_hadOf 13 rfl) rfl (fun c23 => ?_) (fun c23 => ?_)
      · refine kx_iinc_e (pc := 79) (v := nI (k + 1)) (lv' := [_, _, _, _, _, _, _]) (kx_dd d_Mo_hadOf 43 rfl) rfl (Nat.le_of_ble_eq_true rfl) (nI_1 k) rfl ?_
        refine kx_goto (pc := 82) (tgt := 6) (kx_dd d_Mo_hadOf 44 rfl) rfl ?_
        rw [hpk.1, nI_eq (by omega) (by omega)] at c23
        have e1 : hadK D r c kn (k + 1) = hadK D r c kn k := if_neg (fun z => c23 z.1)
        have ih1 := ih (k + 1) (by omega)
        rw [e1] at ih1
        exact ih1 _
      · refine kx_aload_n (pc := 26) (kx_dd d_Mo_hadOf 14 rfl) rfl rfl ?_
        refine kx_getR (pc := 27) (b := 143) fl_Mo_387 (hm.k 0 rfl) rfl (hm.r 58 rfl) (kx_dd d_Mo_hadOf 15 rfl) ?_
        refine kx_iload (pc := 30) (kx_dd d_Mo_hadOf 16 rfl) rfl ?_
        refine kx_ialdn (pc := 32) k (hm.t 59 rfl) rfl (by omega) (by decide) (kx_dd d_Mo_hadOf 17 rfl) ?_
        refine kx_iload_n (pc := 33) (kx_dd d_Mo_hadOf 18 rfl) rfl rfl ?_
        refine kx_icmp_gt (pc := 34) (tgt := 79) (kx_dd d_Mo_hadOf 19 rfl) rfl (fun c34 => ?_) (fun c34 => ?_)
        · refine kx_iinc_e (pc := 79) (v := nI (k + 1)) (lv' := [_, _, _, _, _, _, _]) (kx_dd d_Mo_hadOf 43 rfl) rfl (Nat.le_of_ble_eq_true rfl) (nI_1 k) rfl ?_
          refine kx_goto (pc := 82) (tgt := 6) (kx_dd d_Mo_hadOf 44 rfl) rfl ?_
          rw [hpk.2.2.2.2, nI_ltI hkn (by omega)] at c34
          have e1 : hadK D r c kn (k + 1) = hadK D r c kn k := if_neg (fun z => by omega)
          have ih1 := ih (k + 1) (by omega)
          rw [e1] at ih1
          exact ih1 _
        · refine kx_aload_n (pc := 37) (kx_dd d_Mo_hadOf 20 rfl) rfl rfl ?_
          refine kx_iload (pc := 38) (kx_dd d_Mo_hadOf 21 rfl) rfl ?_
          refine kx_iload_n (pc := 40) (kx_dd d_Mo_hadOf 22 rfl) rfl rfl ?_
          refine kx_invV (pc := 41) (a := 84) (as := [_, _]) (kx_dd d_Mo_hadOf 23 rfl) ⟨lk_Mo_528, wi_Mo_isForged, we_Mo_isForged⟩ w_Mo_isForged (hm.k 0 rfl) rfl rfl rfl rfl (Nat.le_of_ble_eq_true rfl) (y_isForged (d := d) hm nw T hwt D ho hp k hk kn hkn) (Nat.le_refl _) ⟨Nat.le_refl _, Nat.le_refl _⟩ (fun v h' hq => ?_)
          obtain ⟨rfl, he⟩ := hq
          rw [he]
          clear he
          refine kx_if_eq (pc := 44) (tgt := 50) (kx_dd d_Mo_hadOf 24 rfl) rfl (fun c44 => ?_) (fun c44 => ?_)
          · refine kx_aload_n (pc := 50) (kx_dd d_Mo_hadOf 26 rfl) rfl rfl ?_
            refine kx_iload_n (pc := 51) (kx_dd d_Mo_hadOf 27 rfl) rfl rfl ?_
            refine kx_aload_n (pc := 52) (kx_dd d_Mo_hadOf 28 rfl) rfl rfl ?_
            refine kx_getR (pc := 53) (b := 140) fl_Mo_378 (hm.k 0 rfl) rfl (hm.r 55 rfl) (kx_dd d_Mo_hadOf 29 rfl) ?_
            refine kx_iload (pc := 56) (kx_dd d_Mo_hadOf 30 rfl) rfl ?_
            refine kx_ialdn (pc := 58) k (hm.t 56 rfl) rfl (by omega) (by decide) (kx_dd d_Mo_hadOf 31 rfl) ?_
            rw [wi3]
            refine kx_invV (pc := 59) (a := 84) (as := [_, _]) (kx_dd d_Mo_hadOf 32 rfl) ⟨lk_Mo_106, wi_Mo_kindOf, we_Mo_kindOf⟩ w_Mo_kindOf (hm.k 0 rfl) rfl rfl rfl rfl (Nat.le_of_ble_eq_true rfl) (y_kindOf (d := d + 2) hm nw T hwt r hro v hv hrp wi wi1) (Nat.le_refl _) ⟨Nat.le_refl _, Nat.le_refl _⟩ (fun v h' hq => ?_)
            obtain ⟨rfl, he⟩ := hq
            rw [he]
            clear he
            refine kx_istore_e (pc := 62) (lv' := [_, _, _, _, _, _, _]) (kx_dd d_Mo_hadOf 33 rfl) (Nat.le_of_ble_eq_true rfl) rfl ?_
            refine kx_iload (pc := 64) (kx_dd d_Mo_hadOf 34 rfl) rfl ?_
            refine kx_iconst (pc := 66) (v := -1) (kx_dd d_Mo_hadOf 35 rfl) rfl ?_
            refine kx_icmp_eq (pc := 67) (tgt := 79) (kx_dd d_Mo_hadOf 36 rfl) rfl (fun c67 => ?_) (fun c67 => ?_)
            · refine kx_iinc_e (pc := 79) (v := nI (k + 1)) (lv' := [_, _, _, _, _, _, _]) (kx_dd d_Mo_hadOf 43 rfl) rfl (Nat.le_of_ble_eq_true rfl) (nI_1 k) rfl ?_
              refine kx_goto (pc := 82) (tgt := 6) (kx_dd d_Mo_hadOf 44 rfl) rfl ?_
              rw [wi2, hon] at c67
              have e1 : hadK D r c kn (k + 1) = hadK D r c kn k := by
                rw [hadK, c67]
                split <;> rfl
              have ih1 := ih (k + 1) (by omega)
              rw [e1] at ih1
              exact ih1 _
            · obtain ⟨x, ex⟩ : ∃ x, kiF r (D.2.2.2.2.2.1 k) = some x := by
                cases e : kiF r (D.2.2.2.2.2.1 k) with
                | none => exact absurd (by rw [wi2]; exact hon.mpr e) c67
                | some x => exact ⟨x, rfl⟩
              have hx := hki x ex
              refine kx_iload (pc := 70) (kx_dd d_Mo_hadOf 37 rfl) rfl ?_
              refine kx_iconst (pc := 72) (v := 1) (kx_dd d_Mo_hadOf 38 rfl) rfl ?_
              refine kx_iload (pc := 73) (kx_dd d_Mo_hadOf 39 rfl) rfl ?_
              rw [wi2, ex, show oI (some x) = nI x from rfl]
              refine kx_ishl (pc := 75) (kx_dd d_Mo_hadOf 40 rfl) ?_
              rw [nI_pow (by omega)]
              refine kx_ior (pc := 76) (kx_dd d_Mo_hadOf 41 rfl) ?_
              rw [nI_or]
              refine kx_istore_e (pc := 77) (lv' := [_, _, _, _, _, _, _]) (kx_dd d_Mo_hadOf 42 rfl) (Nat.le_of_ble_eq_true rfl) rfl ?_
              refine kx_iinc_e (pc := 79) (v := nI (k + 1)) (lv' := [_, _, _, _, _, _, _]) (kx_dd d_Mo_hadOf 43 rfl) rfl (Nat.le_of_ble_eq_true rfl) (nI_1 k) rfl ?_
              refine kx_goto (pc := 82) (tgt := 6) (kx_dd d_Mo_hadOf 44 rfl) rfl ?_
              rw [bP_0] at c44
              rw [hpk.1, nI_eq (by omega) (by omega)] at c23
              rw [hpk.2.2.2.2, nI_ltI hkn (by omega)] at c34
              have e1 : hadK D r c kn (k + 1) = hadK D r c kn k ||| 2 ^ x := by
                rw [hadK, if_pos ⟨c23, by omega, c44⟩, ex]
              have ih1 := ih (k + 1) (by omega)
              rw [e1] at ih1
              exact ih1 _
          · refine kx_goto (pc := 47) (tgt := 79) (kx_dd d_Mo_hadOf 25 rfl) rfl ?_
            refine kx_iinc_e (pc := 79) (v := nI (k + 1)) (lv' := [_, _, _, _, _, _, _]) (kx_dd d_Mo_hadOf 43 rfl) rfl (Nat.le_of_ble_eq_true rfl) (nI_1 k) rfl ?_
            refine kx_goto (pc := 82) (tgt := 6) (kx_dd d_Mo_hadOf 44 rfl) rfl ?_
            rw [bP_0, Classical.not_not] at c44
            have e1 : hadK D r c kn (k + 1) = hadK D r c kn k := if_neg (fun z => z.2.2 c44)
            have ih1 := ih (k + 1) (by omega)
            rw [e1] at ih1
            exact ih1 _
theorem y_hadOf {l : Launch} {g : kx_G} {d : Nat} {h : kx_Mem} (hm : SM h) (nw : Nat) (T : Nat → Nat) (hwt : WTok nw T) (D : DK) (ho : DKok D) (hp : DKm D nw T h) (r : RU) (hro : RUok r) (v : Nat) (hv : v ≤ 4) (hrp : RUm r v nw T h) (c : Nat) (hc : c < D.2.2.1.1) (kn : Nat) (hkn : kn < 2 ^ 31) : kx_Sp l g m_Mo_hadOf [.ref 84, .int (nI c), .int (nI v), .int (nI kn)] h (d + 3) 0 0 (fun z9 h' => z9 = some (.int (nI (hadF D r c kn))) ∧ h' = h) := by
  refine kx_enter_e (lv := [_, _, _, _, _, _, _]) (by decide +kernel) (Nat.le_of_ble_eq_true rfl) rfl ?_
  refine kx_iconst (pc := 0) (v := 0) (kx_dd d_Mo_hadOf 0 rfl) rfl ?_
  refine kx_istore_e (pc := 1) (lv' := [_, _, _, _, _, _, _]) (kx_dd d_Mo_hadOf 1 rfl) (Nat.le_of_ble_eq_true rfl) rfl ?_
  refine kx_iconst (pc := 3) (v := 0) (kx_dd d_Mo_hadOf 2 rfl) rfl ?_
  refine kx_istore_e (pc := 4) (lv' := [_, _, _, _, _, _, _]) (kx_dd d_Mo_hadOf 3 rfl) (Nat.le_of_ble_eq_true rfl) rfl ?_
  exact y_had_loop hm nw T hwt D ho hp r hro v hv hrp c hc kn hkn D.2.2.2.1 0 (by omega) _
theorem y_isOther {l : Launch} {g : kx_G} {d : Nat} {h : kx_Mem} (hm : SM h) (nw : Nat) (T : Nat → Nat) (hwt : WTok nw T) (D : DK) (ho : DKok D) (hp : DKm D nw T h) (c : Nat) (hc : c < D.2.2.1.1) (dy kn : Nat) (hdy : dy < 2 ^ 31) (hkn : kn < 2 ^ 31) : kx_Sp l g m_Mo_isOther [.ref 84, .int (nI c), .int (nI dy), .int (nI kn)] h (d + 2) 0 0 (fun z9 h' => z9 = some (.int (bP (¬ natF D.1 (cN D.2.2.1 c 0) dy kn = (cN D.2.2.1 c 1)))) ∧ h' = h) := by
  have o60 := ho.2.2.1.1
  have o150 := ho.2.2.2.1
  have oP := ho.1.1
  have hn2 := hwt.1
  have hcc := hp.2.2.1.2 c hc
  have occ := ho.2.2.1.2 c hc
  have f0 : h.1 122 c = nI (cN D.2.2.1 c 0) := (hcc.1 0 (by decide) (by decide) (by decide)).trans (occ.1 0 (by decide) (by decide) (by decide) (by decide))
  have f1 : h.1 123 c = nI (cN D.2.2.1 c 1) := (hcc.1 1 (by decide) (by decide) (by decide)).trans (occ.1 1 (by decide) (by decide) (by decide) (by decide))
  have f2 : h.1 124 c = nI (cN D.2.2.1 c 2) := (hcc.1 2 (by decide) (by decide) (by decide)).trans (occ.1 2 (by decide) (by decide) (by decide) (by decide))
  have f8 : h.1 130 c = nI (cN D.2.2.1 c 8) := (hcc.1 8 (by decide) (by decide) (by decide)).trans (occ.1 8 (by decide) (by decide) (by decide) (by decide))
  have f5 : h.1 128 c = nI (cN D.2.2.1 c 5) := hcc.2.1.trans (occ.1 5 (by decide) (by decide) (by decide) (by decide))
  obtain ⟨-, q0, q1, q2, q3, q4, q5, qd, q7, q8, -⟩ := occ
  have oth := ho.2.1.2 (cN D.2.2.1 c 2) q2
  have ol : lostD D c ≤ 1999 := oth.1
  have qd9 : lostD D c ≤ (cN D.2.2.1 c 5) := qd
  have ftd : h.1 118 (cN D.2.2.1 c 2) = nI (lostD D c) := (hp.2.1.2 (cN D.2.2.1 c 2) q2).1
  have oth0 := ho.2.1.1
  refine kx_enter_e (lv := [_, _, _, _]) (by decide +kernel) (Nat.le_of_ble_eq_true rfl) rfl ?_
  refine kx_aload_n (pc := 0) (kx_dd d_Mo_isOther 0 rfl) rfl rfl ?_
  refine kx_aload_n (pc := 1) (kx_dd d_Mo_isOther 1 rfl) rfl rfl ?_
  refine kx_getR (pc := 2) (b := 122) fl_Mo_324 (hm.k 0 rfl) rfl (hm.r 37 rfl) (kx_dd d_Mo_isOther 2 rfl) ?_
  refine kx_iload_n (pc := 5) (kx_dd d_Mo_isOther 3 rfl) rfl rfl ?_
  refine kx_ialdn (pc := 6) c (hm.t 38 rfl) rfl (by omega) (by decide) (kx_dd d_Mo_isOther 4 rfl) ?_
  refine kx_iload_n (pc := 7) (kx_dd d_Mo_isOther 5 rfl) rfl rfl ?_
  refine kx_iload_n (pc := 8) (kx_dd d_Mo_isOther 6 rfl) rfl rfl ?_
  rw [f0]
  refine kx_invV (pc := 9) (a := 84) (as := [_, _, _]) (kx_dd d_Mo_isOther 7 rfl) ⟨lk_Mo_454, wi_Mo_nationFor, we_Mo_nationFor⟩ w_Mo_nationFor (hm.k 0 rfl) rfl rfl rfl rfl (Nat.le_of_ble_eq_true rfl) (y_nationFor (d := d) hm D.1 ho.1 hp.1 (cN D.2.2.1 c 0) dy kn (by omega) hdy hkn) (Nat.le_refl _) ⟨Nat.le_refl _, Nat.le_refl _⟩ (fun v h' hq => ?_)
  obtain ⟨rfl, he⟩ := hq
  rw [he]
  clear he
  refine kx_aload_n (pc := 12) (kx_dd d_Mo_isOther 8 rfl) rfl rfl ?_
  refine kx_getR (pc := 13) (b := 123) fl_Mo_327 (hm.k 0 rfl) rfl (hm.r 38 rfl) (kx_dd d_Mo_isOther 9 rfl) ?_
  refine kx_iload_n (pc := 16) (kx_dd d_Mo_isOther 10 rfl) rfl rfl ?_
  refine kx_ialdn (pc := 17) c (hm.t 39 rfl) rfl (by omega) (by decide) (kx_dd d_Mo_isOther 11 rfl) ?_
  refine kx_icmp_eq (pc := 18) (tgt := 25) (kx_dd d_Mo_isOther 12 rfl) rfl (fun c18 => ?_) (fun c18 => ?_)
  · refine kx_iconst (pc := 25) (v := 0) (kx_dd d_Mo_isOther 15 rfl) rfl ?_
    refine kx_zret (pc := 26) rfl rfl (kx_dd d_Mo_isOther 16 rfl) (Nat.le_refl _) (Nat.le_refl _) ?_
    rw [f1, nI_eq (by have := natF_le ho.1 (p := (cN D.2.2.1 c 0)) (day := dy) (kn := kn); omega) (by omega)] at c18
    exact ⟨by rw [bP_f (fun z => z c18)], rfl⟩
  · refine kx_iconst (pc := 21) (v := 1) (kx_dd d_Mo_isOther 13 rfl) rfl ?_
    refine kx_goto (pc := 22) (tgt := 26) (kx_dd d_Mo_isOther 14 rfl) rfl ?_
    refine kx_zret (pc := 26) rfl rfl (kx_dd d_Mo_isOther 16 rfl) (Nat.le_refl _) (Nat.le_refl _) ?_
    rw [f1, nI_eq (by have := natF_le ho.1 (p := (cN D.2.2.1 c 0)) (day := dy) (kn := kn); omega) (by omega)] at c18
    exact ⟨by rw [bP_t c18], rfl⟩
theorem y_chain_loop {l : Launch} {g : kx_G} {d : Nat} {h : kx_Mem} (hm : SM h) (nw : Nat) (T : Nat → Nat) (hwt : WTok nw T) (D : DK) (ho : DKok D) (hp : DKm D nw T h) (r : RU) (hro : RUok r) (v : Nat) (hv : v ≤ 4) (hrp : RUm r v nw T h) (c : Nat) (hc : c < D.2.2.1.1) (kn : Nat) (hkn : kn < 2 ^ 31) (e0 : ¬ (ruS r 3) = 0) (e1 : ¬ (ruS r 3) = 1) (e2 : ¬ (ruS r 3) = 2) : ∀ f dy, dy + f = (cN D.2.2.1 c 5) + 1 → lostD D c ≤ dy → (∀ y, lostD D c ≤ y → y < dy → natF D.1 (cN D.2.2.1 c 0) y kn = (cN D.2.2.1 c 1)) → kx_X (l, g, m_Mo_chainFails, d + 3, 0, 0, (fun z9 h' => z9 = some (.int (bP (¬ chnP D.1 (cN D.2.2.1 c 0) (cN D.2.2.1 c 1) (lostD D c) (cN D.2.2.1 c 5) (ruS r 3) kn))) ∧ h' = h)) 0 0 105 [some (.ref 84), some (.int (nI c)), some (.int (nI v)), some (.int (nI kn)), some (.int (nI (lostD D c))), some (.int (ruS r 3)), some (.int (nI dy))] [] h := by
  have o60 := ho.2.2.1.1
  have o150 := ho.2.2.2.1
  have oP := ho.1.1
  have hn2 := hwt.1
  have hcc := hp.2.2.1.2 c hc
  have occ := ho.2.2.1.2 c hc
  have f0 : h.1 122 c = nI (cN D.2.2.1 c 0) := (hcc.1 0 (by decide) (by decide) (by decide)).trans (occ.1 0 (by decide) (by decide) (by decide) (by decide))
  have f1 : h.1 123 c = nI (cN D.2.2.1 c 1) := (hcc.1 1 (by decide) (by decide) (by decide)).trans (occ.1 1 (by decide) (by decide) (by decide) (by decide))
  have f2 : h.1 124 c = nI (cN D.2.2.1 c 2) := (hcc.1 2 (by decide) (by decide) (by decide)).trans (occ.1 2 (by decide) (by decide) (by decide) (by decide))
  have f8 : h.1 130 c = nI (cN D.2.2.1 c 8) := (hcc.1 8 (by decide) (by decide) (by decide)).trans (occ.1 8 (by decide) (by decide) (by decide) (by decide))
  have f5 : h.1 128 c = nI (cN D.2.2.1 c 5) := hcc.2.1.trans (occ.1 5 (by decide) (by decide) (by decide) (by decide))
  obtain ⟨-, q0, q1, q2, q3, q4, q5, qd, q7, q8, -⟩ := occ
  have oth := ho.2.1.2 (cN D.2.2.1 c 2) q2
  have ol : lostD D c ≤ 1999 := oth.1
  have qd9 : lostD D c ≤ (cN D.2.2.1 c 5) := qd
  have ftd : h.1 118 (cN D.2.2.1 c 2) = nI (lostD D c) := (hp.2.1.2 (cN D.2.2.1 c 2) q2).1
  have oth0 := ho.2.1.1
  have e9 : chnP D.1 (cN D.2.2.1 c 0) (cN D.2.2.1 c 1) (lostD D c) (cN D.2.2.1 c 5) (ruS r 3) kn ↔ alwP D.1 (cN D.2.2.1 c 0) (cN D.2.2.1 c 1) (lostD D c) (cN D.2.2.1 c 5) kn := by unfold chnP; rw [if_neg e0, if_neg e1, if_neg e2]
  have hmx : (if nI (lostD D c) < nI (cN D.2.2.1 c 5) then nI (cN D.2.2.1 c 5) else nI (lostD D c)) = nI (cN D.2.2.1 c 5) := by
    by_cases z : lostD D c < (cN D.2.2.1 c 5)
    · rw [if_pos (nI_lt z (by omega))]
    · rw [if_neg (nI_nlt (by omega) (by omega)), show lostD D c = (cN D.2.2.1 c 5) by omega]
  intro f
  induction f with
  | zero =>
    intro dy hf hlo hall
    have e5 : dy = (cN D.2.2.1 c 5) + 1 := by omega
    subst e5
    refine kx_iload (pc := 105) (kx_dd d_Mo_chainFails 62 rfl) rfl ?_
    refine kx_iload (pc := 107) (kx_dd d_Mo_chainFails 63 rfl) rfl ?_
    refine kx_aload_n (pc := 109) (kx_dd d_Mo_chainFails 64 rfl) rfl rfl ?_
    refine kx_getR (pc := 110) (b := 128) fl_Mo_342 (hm.k 0 rfl) rfl (hm.r 43 rfl) (kx_dd d_Mo_chainFails 65 rfl) ?_
    refine kx_iload_n (pc := 113) (kx_dd d_Mo_chainFails 66 rfl) rfl rfl ?_
    refine kx_ialdn (pc := 114) c (hm.t 44 rfl) rfl (by omega) (by decide) (kx_dd d_Mo_chainFails 67 rfl) ?_
    rw [f5]
    refine kx_mmax (pc := 115) mk_Mo_541 (kx_dd d_Mo_chainFails 68 rfl) (Nat.le_of_ble_eq_true rfl) (Nat.le_of_ble_eq_true rfl) (Nat.le_refl _) (Nat.le_refl _) ?_
    rw [hmx]
    refine kx_icmp_gt (pc := 118) (tgt := 140) (kx_dd d_Mo_chainFails 69 rfl) rfl (fun c118 => ?_) (fun c118 => ?_)
    · refine kx_iconst (pc := 140) (v := 0) (kx_dd d_Mo_chainFails 80 rfl) rfl ?_
      refine kx_zret (pc := 141) rfl rfl (kx_dd d_Mo_chainFails 81 rfl) (Nat.le_refl _) (Nat.le_refl _) ?_
      refine ⟨?_, rfl⟩
      rw [bP_f (fun z => z (e9.mpr ((alwP_iff qd).mpr (fun y h1 h2 => hall y h1 (by omega)))))]
    · exact absurd (nI_lt (by omega) (by omega)) c118
  | succ f ih =>
    intro dy hf hlo hall
    refine kx_iload (pc := 105) (kx_dd d_Mo_chainFails 62 rfl) rfl ?_
    refine kx_iload (pc := 107) (kx_dd d_Mo_chainFails 63 rfl) rfl ?_
    refine kx_aload_n (pc := 109) (kx_dd d_Mo_chainFails 64 rfl) rfl rfl ?_
    refine kx_getR (pc := 110) (b := 128) fl_Mo_342 (hm.k 0 rfl) rfl (hm.r 43 rfl) (kx_dd d_Mo_chainFails 65 rfl) ?_
    refine kx_iload_n (pc := 113) (kx_dd d_Mo_chainFails 66 rfl) rfl rfl ?_
    refine kx_ialdn (pc := 114) c (hm.t 44 rfl) rfl (by omega) (by decide) (kx_dd d_Mo_chainFails 67 rfl) ?_
    rw [f5]
    refine kx_mmax (pc := 115) mk_Mo_541 (kx_dd d_Mo_chainFails 68 rfl) (Nat.le_of_ble_eq_true rfl) (Nat.le_of_ble_eq_true rfl) (Nat.le_refl _) (Nat.le_refl _) ?_
    rw [hmx]
    refine kx_icmp_gt (pc := 118) (tgt := 140) (kx_dd d_Mo_chainFails 69 rfl) rfl (fun c118 => ?_) (fun c118 => ?_)
    · exact absurd c118 (nI_nlt (by omega) (by omega))
    · refine kx_aload_n (pc := 121) (kx_dd d_Mo_chainFails 70 rfl) rfl rfl ?_
      refine kx_iload_n (pc := 122) (kx_dd d_Mo_chainFails 71 rfl) rfl rfl ?_
      refine kx_iload (pc := 123) (kx_dd d_Mo_chainFails 72 rfl) rfl ?_
      refine kx_iload_n (pc := 125) (kx_dd d_Mo_chainFails 73 rfl) rfl rfl ?_
      refine kx_invV (pc := 126) (a := 84) (as := [_, _, _]) (kx_dd d_Mo_chainFails 74 rfl) ⟨lk_Mo_538, wi_Mo_isOther, we_Mo_isOther⟩ w_Mo_isOther (hm.k 0 rfl) rfl rfl rfl rfl (Nat.le_of_ble_eq_true rfl) (y_isOther (d := d) hm nw T hwt D ho hp c hc dy kn (by omega) hkn) (Nat.le_refl _) ⟨Nat.le_refl _, Nat.le_refl _⟩ (fun v h' hq => ?_)
      obtain ⟨rfl, he⟩ := hq
      rw [he]
      clear he
      refine kx_if_eq (pc := 129) (tgt := 134) (kx_dd d_Mo_chainFails 75 rfl) rfl (fun c129 => ?_) (fun c129 => ?_)
      · refine kx_iinc_e (pc := 134) (v := nI (dy + 1)) (lv' := [_, _, _, _, _, _, _]) (kx_dd d_Mo_chainFails 78 rfl) rfl (Nat.le_of_ble_eq_true rfl) (nI_1 dy) rfl ?_
        refine kx_goto (pc := 137) (tgt := 105) (kx_dd d_Mo_chainFails 79 rfl) rfl ?_
        rw [bP_0, Classical.not_not] at c129
        exact ih (dy + 1) (by omega) (by omega) (fun y h1 h2 => by
          rcases Nat.lt_succ_iff_lt_or_eq.mp h2 with z | rfl
          · exact hall y h1 z
          · exact c129)
      · refine kx_iconst (pc := 132) (v := 1) (kx_dd d_Mo_chainFails 76 rfl) rfl ?_
        refine kx_zret (pc := 133) rfl rfl (kx_dd d_Mo_chainFails 77 rfl) (Nat.le_refl _) (Nat.le_refl _) ?_
        rw [bP_0, Classical.not_not] at c129
        refine ⟨?_, rfl⟩
        rw [bP_t (fun z => c129 ((alwP_iff qd).mp (e9.mp z) dy (by omega) (by omega)))]
theorem y_chainFails {l : Launch} {g : kx_G} {d : Nat} {h : kx_Mem} (hm : SM h) (nw : Nat) (T : Nat → Nat) (hwt : WTok nw T) (D : DK) (ho : DKok D) (hp : DKm D nw T h) (r : RU) (hro : RUok r) (v : Nat) (hv : v ≤ 4) (hrp : RUm r v nw T h) (c : Nat) (hc : c < D.2.2.1.1) (kn : Nat) (hkn : kn < 2 ^ 31) : kx_Sp l g m_Mo_chainFails [.ref 84, .int (nI c), .int (nI v), .int (nI kn)] h (d + 3) 0 0 (fun z9 h' => z9 = some (.int (bP (¬ chnP D.1 (cN D.2.2.1 c 0) (cN D.2.2.1 c 1) (lostD D c) (cN D.2.2.1 c 5) (ruS r 3) kn))) ∧ h' = h) := by
  have o60 := ho.2.2.1.1
  have o150 := ho.2.2.2.1
  have oP := ho.1.1
  have hn2 := hwt.1
  have hcc := hp.2.2.1.2 c hc
  have occ := ho.2.2.1.2 c hc
  have f0 : h.1 122 c = nI (cN D.2.2.1 c 0) := (hcc.1 0 (by decide) (by decide) (by decide)).trans (occ.1 0 (by decide) (by decide) (by decide) (by decide))
  have f1 : h.1 123 c = nI (cN D.2.2.1 c 1) := (hcc.1 1 (by decide) (by decide) (by decide)).trans (occ.1 1 (by decide) (by decide) (by decide) (by decide))
  have f2 : h.1 124 c = nI (cN D.2.2.1 c 2) := (hcc.1 2 (by decide) (by decide) (by decide)).trans (occ.1 2 (by decide) (by decide) (by decide) (by decide))
  have f8 : h.1 130 c = nI (cN D.2.2.1 c 8) := (hcc.1 8 (by decide) (by decide) (by decide)).trans (occ.1 8 (by decide) (by decide) (by decide) (by decide))
  have f5 : h.1 128 c = nI (cN D.2.2.1 c 5) := hcc.2.1.trans (occ.1 5 (by decide) (by decide) (by decide) (by decide))
  obtain ⟨-, q0, q1, q2, q3, q4, q5, qd, q7, q8, -⟩ := occ
  have oth := ho.2.1.2 (cN D.2.2.1 c 2) q2
  have ol : lostD D c ≤ 1999 := oth.1
  have qd9 : lostD D c ≤ (cN D.2.2.1 c 5) := qd
  have ftd : h.1 118 (cN D.2.2.1 c 2) = nI (lostD D c) := (hp.2.1.2 (cN D.2.2.1 c 2) q2).1
  have oth0 := ho.2.1.1
  have s3 : h.1 89 (11 * v + 3) = ruS r 3 := hrp.1 3 (by decide)
  refine kx_enter_e (lv := [_, _, _, _, _, _, _]) (by decide +kernel) (Nat.le_of_ble_eq_true rfl) rfl ?_
  refine kx_aload_n (pc := 0) (kx_dd d_Mo_chainFails 0 rfl) rfl rfl ?_
  refine kx_getR (pc := 1) (b := 118) fl_Mo_312 (hm.k 0 rfl) rfl (hm.r 33 rfl) (kx_dd d_Mo_chainFails 1 rfl) ?_
  refine kx_aload_n (pc := 4) (kx_dd d_Mo_chainFails 2 rfl) rfl rfl ?_
  refine kx_getR (pc := 5) (b := 124) fl_Mo_330 (hm.k 0 rfl) rfl (hm.r 39 rfl) (kx_dd d_Mo_chainFails 3 rfl) ?_
  refine kx_iload_n (pc := 8) (kx_dd d_Mo_chainFails 4 rfl) rfl rfl ?_
  refine kx_ialdn (pc := 9) c (hm.t 40 rfl) rfl (by omega) (by decide) (kx_dd d_Mo_chainFails 5 rfl) ?_
  refine kx_ialdn (pc := 10) (cN D.2.2.1 c 2) (hm.t 34 rfl) (by rw [f2]) (by omega) (by decide) (kx_dd d_Mo_chainFails 6 rfl) ?_
  rw [ftd]
  refine kx_istore_e (pc := 11) (lv' := [_, _, _, _, _, _, _]) (kx_dd d_Mo_chainFails 7 rfl) (Nat.le_of_ble_eq_true rfl) rfl ?_
  refine kx_aload_n (pc := 13) (kx_dd d_Mo_chainFails 8 rfl) rfl rfl ?_
  refine kx_iload_n (pc := 14) (kx_dd d_Mo_chainFails 9 rfl) rfl rfl ?_
  refine kx_iconst (pc := 15) (v := 3) (kx_dd d_Mo_chainFails 10 rfl) rfl ?_
  refine kx_invV (pc := 16) (a := 84) (as := [_, _]) (kx_dd d_Mo_chainFails 11 rfl) ⟨lk_Mo_162, wi_Mo_ruleOf, we_Mo_ruleOf⟩ w_Mo_ruleOf (hm.k 0 rfl) rfl rfl rfl rfl (Nat.le_of_ble_eq_true rfl) (y_ruleOf (d := d + 2) hm v 3 hv (by decide)) (Nat.le_refl _) ⟨Nat.le_refl _, Nat.le_refl _⟩ (fun v h' hq => ?_)
  obtain ⟨rfl, he⟩ := hq
  rw [he]
  clear he
  refine kx_istore_e (pc := 19) (lv' := [_, _, _, _, _, _, _]) (kx_dd d_Mo_chainFails 12 rfl) (Nat.le_of_ble_eq_true rfl) rfl ?_
  rw [s3]
  refine kx_iload (pc := 21) (kx_dd d_Mo_chainFails 13 rfl) rfl ?_
  refine kx_if_ne (pc := 23) (tgt := 35) (kx_dd d_Mo_chainFails 14 rfl) rfl (fun c23 => ?_) (fun c23 => ?_)
  · refine kx_iload (pc := 35) (kx_dd d_Mo_chainFails 21 rfl) rfl ?_
    refine kx_iconst (pc := 37) (v := 1) (kx_dd d_Mo_chainFails 22 rfl) rfl ?_
    refine kx_icmp_ne (pc := 38) (tgt := 54) (kx_dd d_Mo_chainFails 23 rfl) rfl (fun c38 => ?_) (fun c38 => ?_)
    · refine kx_iload (pc := 54) (kx_dd d_Mo_chainFails 33 rfl) rfl ?_
      refine kx_iconst (pc := 56) (v := 2) (kx_dd d_Mo_chainFails 34 rfl) rfl ?_
      refine kx_icmp_ne (pc := 57) (tgt := 92) (kx_dd d_Mo_chainFails 35 rfl) rfl (fun c57 => ?_) (fun c57 => ?_)
      · refine kx_iload (pc := 92) (kx_dd d_Mo_chainFails 55 rfl) rfl ?_
        refine kx_aload_n (pc := 94) (kx_dd d_Mo_chainFails 56 rfl) rfl rfl ?_
        refine kx_getR (pc := 95) (b := 128) fl_Mo_342 (hm.k 0 rfl) rfl (hm.r 43 rfl) (kx_dd d_Mo_chainFails 57 rfl) ?_
        refine kx_iload_n (pc := 98) (kx_dd d_Mo_chainFails 58 rfl) rfl rfl ?_
        refine kx_ialdn (pc := 99) c (hm.t 44 rfl) rfl (by omega) (by decide) (kx_dd d_Mo_chainFails 59 rfl) ?_
        rw [f5]
        refine kx_mmin (pc := 100) mk_Mo_489 (kx_dd d_Mo_chainFails 60 rfl) (Nat.le_of_ble_eq_true rfl) (Nat.le_of_ble_eq_true rfl) (Nat.le_refl _) (Nat.le_refl _) ?_
        have hmn : (if nI (cN D.2.2.1 c 5) < nI (lostD D c) then nI (cN D.2.2.1 c 5) else nI (lostD D c)) = nI (lostD D c) := if_neg (nI_nlt qd (by omega))
        rw [hmn]
        refine kx_istore_e (pc := 103) (lv' := [_, _, _, _, _, _, _]) (kx_dd d_Mo_chainFails 61 rfl) (Nat.le_of_ble_eq_true rfl) rfl ?_
        exact y_chain_loop hm nw T hwt D ho hp r hro v hv hrp c hc kn hkn c23 c38 c57 ((cN D.2.2.1 c 5) + 1 - lostD D c) (lostD D c) (by omega) (Nat.le_refl _) (fun y h1 h2 => absurd h1 (by omega))
      · refine kx_aload_n (pc := 60) (kx_dd d_Mo_chainFails 36 rfl) rfl rfl ?_
        refine kx_iload_n (pc := 61) (kx_dd d_Mo_chainFails 37 rfl) rfl rfl ?_
        refine kx_iload (pc := 62) (kx_dd d_Mo_chainFails 38 rfl) rfl ?_
        refine kx_iload_n (pc := 64) (kx_dd d_Mo_chainFails 39 rfl) rfl rfl ?_
        refine kx_invV (pc := 65) (a := 84) (as := [_, _, _]) (kx_dd d_Mo_chainFails 40 rfl) ⟨lk_Mo_538, wi_Mo_isOther, we_Mo_isOther⟩ w_Mo_isOther (hm.k 0 rfl) rfl rfl rfl rfl (Nat.le_of_ble_eq_true rfl) (y_isOther (d := d) hm nw T hwt D ho hp c hc (lostD D c) kn (by omega) hkn) (Nat.le_refl _) ⟨Nat.le_refl _, Nat.le_refl _⟩ (fun v h' hq => ?_)
        obtain ⟨rfl, he⟩ := hq
        rw [he]
        clear he
        refine kx_if_ne (pc := 68) (tgt := 86) (kx_dd d_Mo_chainFails 41 rfl) rfl (fun c68 => ?_) (fun c68 => ?_)
        · refine kx_iconst (pc := 86) (v := 1) (kx_dd d_Mo_chainFails 51 rfl) rfl ?_
          refine kx_goto (pc := 87) (tgt := 91) (kx_dd d_Mo_chainFails 52 rfl) rfl ?_
          refine kx_zret (pc := 91) rfl rfl (kx_dd d_Mo_chainFails 54 rfl) (Nat.le_refl _) (Nat.le_refl _) ?_
          rw [bP_0, Classical.not_not] at c68
          refine ⟨?_, rfl⟩
          have e9 : chnP D.1 (cN D.2.2.1 c 0) (cN D.2.2.1 c 1) (lostD D c) (cN D.2.2.1 c 5) (ruS r 3) kn ↔ natF D.1 (cN D.2.2.1 c 0) (lostD D c) kn = (cN D.2.2.1 c 1) ∧ natF D.1 (cN D.2.2.1 c 0) (cN D.2.2.1 c 5) kn = (cN D.2.2.1 c 1) := by unfold chnP; rw [if_neg c23, if_neg c38, if_pos c57]
          rw [bP_c (not_congr e9)]
          rw [bP_t (fun z => c68 z.1)]
        · refine kx_aload_n (pc := 71) (kx_dd d_Mo_chainFails 42 rfl) rfl rfl ?_
          refine kx_iload_n (pc := 72) (kx_dd d_Mo_chainFails 43 rfl) rfl rfl ?_
          refine kx_aload_n (pc := 73) (kx_dd d_Mo_chainFails 44 rfl) rfl rfl ?_
          refine kx_getR (pc := 74) (b := 128) fl_Mo_342 (hm.k 0 rfl) rfl (hm.r 43 rfl) (kx_dd d_Mo_chainFails 45 rfl) ?_
          refine kx_iload_n (pc := 77) (kx_dd d_Mo_chainFails 46 rfl) rfl rfl ?_
          refine kx_ialdn (pc := 78) c (hm.t 44 rfl) rfl (by omega) (by decide) (kx_dd d_Mo_chainFails 47 rfl) ?_
          refine kx_iload_n (pc := 79) (kx_dd d_Mo_chainFails 48 rfl) rfl rfl ?_
          rw [f5]
          refine kx_invV (pc := 80) (a := 84) (as := [_, _, _]) (kx_dd d_Mo_chainFails 49 rfl) ⟨lk_Mo_538, wi_Mo_isOther, we_Mo_isOther⟩ w_Mo_isOther (hm.k 0 rfl) rfl rfl rfl rfl (Nat.le_of_ble_eq_true rfl) (y_isOther (d := d) hm nw T hwt D ho hp c hc (cN D.2.2.1 c 5) kn (by omega) hkn) (Nat.le_refl _) ⟨Nat.le_refl _, Nat.le_refl _⟩ (fun v h' hq => ?_)
          obtain ⟨rfl, he⟩ := hq
          rw [he]
          clear he
          refine kx_if_eq (pc := 83) (tgt := 90) (kx_dd d_Mo_chainFails 50 rfl) rfl (fun c83 => ?_) (fun c83 => ?_)
          · refine kx_iconst (pc := 90) (v := 0) (kx_dd d_Mo_chainFails 53 rfl) rfl ?_
            refine kx_zret (pc := 91) rfl rfl (kx_dd d_Mo_chainFails 54 rfl) (Nat.le_refl _) (Nat.le_refl _) ?_
            rw [bP_0, Classical.not_not] at c68 c83
            refine ⟨?_, rfl⟩
            have e9 : chnP D.1 (cN D.2.2.1 c 0) (cN D.2.2.1 c 1) (lostD D c) (cN D.2.2.1 c 5) (ruS r 3) kn ↔ natF D.1 (cN D.2.2.1 c 0) (lostD D c) kn = (cN D.2.2.1 c 1) ∧ natF D.1 (cN D.2.2.1 c 0) (cN D.2.2.1 c 5) kn = (cN D.2.2.1 c 1) := by unfold chnP; rw [if_neg c23, if_neg c38, if_pos c57]
            rw [bP_c (not_congr e9)]
            rw [bP_f (fun z => z ⟨c68, c83⟩)]
          · refine kx_iconst (pc := 86) (v := 1) (kx_dd d_Mo_chainFails 51 rfl) rfl ?_
            refine kx_goto (pc := 87) (tgt := 91) (kx_dd d_Mo_chainFails 52 rfl) rfl ?_
            refine kx_zret (pc := 91) rfl rfl (kx_dd d_Mo_chainFails 54 rfl) (Nat.le_refl _) (Nat.le_refl _) ?_
            rw [bP_0, Classical.not_not] at c83
            refine ⟨?_, rfl⟩
            have e9 : chnP D.1 (cN D.2.2.1 c 0) (cN D.2.2.1 c 1) (lostD D c) (cN D.2.2.1 c 5) (ruS r 3) kn ↔ natF D.1 (cN D.2.2.1 c 0) (lostD D c) kn = (cN D.2.2.1 c 1) ∧ natF D.1 (cN D.2.2.1 c 0) (cN D.2.2.1 c 5) kn = (cN D.2.2.1 c 1) := by unfold chnP; rw [if_neg c23, if_neg c38, if_pos c57]
            rw [bP_c (not_congr e9)]
            rw [bP_t (fun z => c83 z.2)]
    · refine kx_aload_n (pc := 41) (kx_dd d_Mo_chainFails 24 rfl) rfl rfl ?_
      refine kx_iload_n (pc := 42) (kx_dd d_Mo_chainFails 25 rfl) rfl rfl ?_
      refine kx_aload_n (pc := 43) (kx_dd d_Mo_chainFails 26 rfl) rfl rfl ?_
      refine kx_getR (pc := 44) (b := 128) fl_Mo_342 (hm.k 0 rfl) rfl (hm.r 43 rfl) (kx_dd d_Mo_chainFails 27 rfl) ?_
      refine kx_iload_n (pc := 47) (kx_dd d_Mo_chainFails 28 rfl) rfl rfl ?_
      refine kx_ialdn (pc := 48) c (hm.t 44 rfl) rfl (by omega) (by decide) (kx_dd d_Mo_chainFails 29 rfl) ?_
      refine kx_iload_n (pc := 49) (kx_dd d_Mo_chainFails 30 rfl) rfl rfl ?_
      rw [f5]
      refine kx_invV (pc := 50) (a := 84) (as := [_, _, _]) (kx_dd d_Mo_chainFails 31 rfl) ⟨lk_Mo_538, wi_Mo_isOther, we_Mo_isOther⟩ w_Mo_isOther (hm.k 0 rfl) rfl rfl rfl rfl (Nat.le_of_ble_eq_true rfl) (y_isOther (d := d) hm nw T hwt D ho hp c hc (cN D.2.2.1 c 5) kn (by omega) hkn) (Nat.le_refl _) ⟨Nat.le_refl _, Nat.le_refl _⟩ (fun v h' hq => ?_)
      obtain ⟨rfl, he⟩ := hq
      rw [he]
      clear he
      refine kx_zret (pc := 53) rfl (nar_bP _) (kx_dd d_Mo_chainFails 32 rfl) (Nat.le_refl _) (Nat.le_refl _) ?_
      refine ⟨?_, rfl⟩
      have e9 : chnP D.1 (cN D.2.2.1 c 0) (cN D.2.2.1 c 1) (lostD D c) (cN D.2.2.1 c 5) (ruS r 3) kn ↔ natF D.1 (cN D.2.2.1 c 0) (cN D.2.2.1 c 5) kn = (cN D.2.2.1 c 1) := by unfold chnP; rw [if_neg c23, if_pos c38]
      rw [bP_c (not_congr e9)]
  · refine kx_aload_n (pc := 26) (kx_dd d_Mo_chainFails 15 rfl) rfl rfl ?_
    refine kx_iload_n (pc := 27) (kx_dd d_Mo_chainFails 16 rfl) rfl rfl ?_
    refine kx_iload (pc := 28) (kx_dd d_Mo_chainFails 17 rfl) rfl ?_
    refine kx_iload_n (pc := 30) (kx_dd d_Mo_chainFails 18 rfl) rfl rfl ?_
    refine kx_invV (pc := 31) (a := 84) (as := [_, _, _]) (kx_dd d_Mo_chainFails 19 rfl) ⟨lk_Mo_538, wi_Mo_isOther, we_Mo_isOther⟩ w_Mo_isOther (hm.k 0 rfl) rfl rfl rfl rfl (Nat.le_of_ble_eq_true rfl) (y_isOther (d := d) hm nw T hwt D ho hp c hc (lostD D c) kn (by omega) hkn) (Nat.le_refl _) ⟨Nat.le_refl _, Nat.le_refl _⟩ (fun v h' hq => ?_)
    obtain ⟨rfl, he⟩ := hq
    rw [he]
    clear he
    refine kx_zret (pc := 34) rfl (nar_bP _) (kx_dd d_Mo_chainFails 20 rfl) (Nat.le_refl _) (Nat.le_refl _) ?_
    refine ⟨?_, rfl⟩
    have e9 : chnP D.1 (cN D.2.2.1 c 0) (cN D.2.2.1 c 1) (lostD D c) (cN D.2.2.1 c 5) (ruS r 3) kn ↔ natF D.1 (cN D.2.2.1 c 0) (lostD D c) kn = (cN D.2.2.1 c 1) := by unfold chnP; rw [if_pos c23]
    rw [bP_c (not_congr e9)]
theorem y_fail93 {l : Launch} {g : kx_G} {d : Nat} {h : kx_Mem} (hm : SM h) (nw : Nat) (T : Nat → Nat) (hwt : WTok nw T) (D : DK) (ho : DKok D) (hp : DKm D nw T h) (r : RU) (hro : RUok r) (v : Nat) (hv : v ≤ 4) (hrp : RUm r v nw T h) (c : Nat) (hc : c < D.2.2.1.1) (kn : Nat) (hkn : kn < 2 ^ 31) (x : Nat) (he : x ||| pfN r (D.2.2.1.2.2 c) (hadF D r c kn) = faiF D r c kn) : kx_X (l, g, m_Mo_failsOf, d + 4, 0, 0, (fun z9 h' => z9 = some (.int (nI (faiF D r c kn))) ∧ h' = h)) 0 0 93 [some (.ref 84), some (.int (nI c)), some (.int (nI v)), some (.int (nI kn)), some (.int (nI x))] [] h := by
  have o60 := ho.2.2.1.1
  have o150 := ho.2.2.2.1
  have oP := ho.1.1
  have hn2 := hwt.1
  have hcc := hp.2.2.1.2 c hc
  have occ := ho.2.2.1.2 c hc
  have f0 : h.1 122 c = nI (cN D.2.2.1 c 0) := (hcc.1 0 (by decide) (by decide) (by decide)).trans (occ.1 0 (by decide) (by decide) (by decide) (by decide))
  have f1 : h.1 123 c = nI (cN D.2.2.1 c 1) := (hcc.1 1 (by decide) (by decide) (by decide)).trans (occ.1 1 (by decide) (by decide) (by decide) (by decide))
  have f2 : h.1 124 c = nI (cN D.2.2.1 c 2) := (hcc.1 2 (by decide) (by decide) (by decide)).trans (occ.1 2 (by decide) (by decide) (by decide) (by decide))
  have f8 : h.1 130 c = nI (cN D.2.2.1 c 8) := (hcc.1 8 (by decide) (by decide) (by decide)).trans (occ.1 8 (by decide) (by decide) (by decide) (by decide))
  have f5 : h.1 128 c = nI (cN D.2.2.1 c 5) := hcc.2.1.trans (occ.1 5 (by decide) (by decide) (by decide) (by decide))
  obtain ⟨wi, wi1, wi2, wi3⟩ := hcc.2.2
  obtain ⟨-, q0, q1, q2, q3, q4, q5, qd, q7, q8, -⟩ := occ
  have oth := ho.2.1.2 (cN D.2.2.1 c 2) q2
  have ol : lostD D c ≤ 1999 := oth.1
  have qd9 : lostD D c ≤ (cN D.2.2.1 c 5) := qd
  have ftd : h.1 118 (cN D.2.2.1 c 2) = nI (lostD D c) := (hp.2.1.2 (cN D.2.2.1 c 2) q2).1
  have oth0 := ho.2.1.1
  have s0 : h.1 89 (11 * v + 0) = ruS r 0 := hrp.1 0 (by decide)
  have s1 : h.1 89 (11 * v + 1) = ruS r 1 := hrp.1 1 (by decide)
  have s2 : h.1 89 (11 * v + 2) = ruS r 2 := hrp.1 2 (by decide)
  refine kx_iload (pc := 93) (kx_dd d_Mo_failsOf 57 rfl) rfl ?_
  refine kx_aload_n (pc := 95) (kx_dd d_Mo_failsOf 58 rfl) rfl rfl ?_
  refine kx_iload_n (pc := 96) (kx_dd d_Mo_failsOf 59 rfl) rfl rfl ?_
  refine kx_iload_n (pc := 97) (kx_dd d_Mo_failsOf 60 rfl) rfl rfl ?_
  refine kx_aload_n (pc := 98) (kx_dd d_Mo_failsOf 61 rfl) rfl rfl ?_
  refine kx_iload_n (pc := 99) (kx_dd d_Mo_failsOf 62 rfl) rfl rfl ?_
  refine kx_iload_n (pc := 100) (kx_dd d_Mo_failsOf 63 rfl) rfl rfl ?_
  refine kx_iload_n (pc := 101) (kx_dd d_Mo_failsOf 64 rfl) rfl rfl ?_
  refine kx_invV (pc := 102) (a := 84) (as := [_, _, _]) (kx_dd d_Mo_failsOf 65 rfl) ⟨lk_Mo_547, wi_Mo_hadOf, we_Mo_hadOf⟩ w_Mo_hadOf (hm.k 0 rfl) rfl rfl rfl rfl (Nat.le_of_ble_eq_true rfl) (y_hadOf (d := d) hm nw T hwt D ho hp r hro v hv hrp c hc kn hkn) (Nat.le_refl _) ⟨Nat.le_refl _, Nat.le_refl _⟩ (fun v h' hq => ?_)
  obtain ⟨rfl, he⟩ := hq
  rw [he]
  clear he
  refine kx_invV (pc := 105) (a := 84) (as := [_, _, _]) (kx_dd d_Mo_failsOf 66 rfl) ⟨lk_Mo_550, wi_Mo_papersFail, we_Mo_papersFail⟩ w_Mo_papersFail (hm.k 0 rfl) rfl rfl rfl rfl (Nat.le_of_ble_eq_true rfl) (y_papersFail (d := d + 2) hm nw T hwt r hro v hv hrp wi wi1 c (by omega) wi3 (hadF D r c kn) (by have := hadF_lt (D := D) hro (c := c) (kn := kn); omega)) (Nat.le_refl _) ⟨Nat.le_refl _, Nat.le_refl _⟩ (fun v h' hq => ?_)
  obtain ⟨rfl, he⟩ := hq
  rw [he]
  clear he
  refine kx_ior (pc := 108) (kx_dd d_Mo_failsOf 67 rfl) ?_
  refine kx_iret (pc := 109) rfl (kx_dd d_Mo_failsOf 68 rfl) (Nat.le_refl _) (Nat.le_refl _) ?_
  exact ⟨by rw [wi2, nI_or, he], rfl⟩
theorem y_fail76 {l : Launch} {g : kx_G} {d : Nat} {h : kx_Mem} (hm : SM h) (nw : Nat) (T : Nat → Nat) (hwt : WTok nw T) (D : DK) (ho : DKok D) (hp : DKm D nw T h) (r : RU) (hro : RUok r) (v : Nat) (hv : v ≤ 4) (hrp : RUm r v nw T h) (c : Nat) (hc : c < D.2.2.1.1) (kn : Nat) (hkn : kn < 2 ^ 31) (x : Nat) (he : f32N D c x ||| pfN r (D.2.2.1.2.2 c) (hadF D r c kn) = faiF D r c kn) : kx_X (l, g, m_Mo_failsOf, d + 4, 0, 0, (fun z9 h' => z9 = some (.int (nI (faiF D r c kn))) ∧ h' = h)) 0 0 76 [some (.ref 84), some (.int (nI c)), some (.int (nI v)), some (.int (nI kn)), some (.int (nI x))] [] h := by
  have o60 := ho.2.2.1.1
  have o150 := ho.2.2.2.1
  have oP := ho.1.1
  have hn2 := hwt.1
  have hcc := hp.2.2.1.2 c hc
  have occ := ho.2.2.1.2 c hc
  have f0 : h.1 122 c = nI (cN D.2.2.1 c 0) := (hcc.1 0 (by decide) (by decide) (by decide)).trans (occ.1 0 (by decide) (by decide) (by decide) (by decide))
  have f1 : h.1 123 c = nI (cN D.2.2.1 c 1) := (hcc.1 1 (by decide) (by decide) (by decide)).trans (occ.1 1 (by decide) (by decide) (by decide) (by decide))
  have f2 : h.1 124 c = nI (cN D.2.2.1 c 2) := (hcc.1 2 (by decide) (by decide) (by decide)).trans (occ.1 2 (by decide) (by decide) (by decide) (by decide))
  have f8 : h.1 130 c = nI (cN D.2.2.1 c 8) := (hcc.1 8 (by decide) (by decide) (by decide)).trans (occ.1 8 (by decide) (by decide) (by decide) (by decide))
  have f5 : h.1 128 c = nI (cN D.2.2.1 c 5) := hcc.2.1.trans (occ.1 5 (by decide) (by decide) (by decide) (by decide))
  obtain ⟨wi, wi1, wi2, wi3⟩ := hcc.2.2
  obtain ⟨-, q0, q1, q2, q3, q4, q5, qd, q7, q8, -⟩ := occ
  have oth := ho.2.1.2 (cN D.2.2.1 c 2) q2
  have ol : lostD D c ≤ 1999 := oth.1
  have qd9 : lostD D c ≤ (cN D.2.2.1 c 5) := qd
  have ftd : h.1 118 (cN D.2.2.1 c 2) = nI (lostD D c) := (hp.2.1.2 (cN D.2.2.1 c 2) q2).1
  have oth0 := ho.2.1.1
  have s0 : h.1 89 (11 * v + 0) = ruS r 0 := hrp.1 0 (by decide)
  have s1 : h.1 89 (11 * v + 1) = ruS r 1 := hrp.1 1 (by decide)
  have s2 : h.1 89 (11 * v + 2) = ruS r 2 := hrp.1 2 (by decide)
  refine kx_aload_n (pc := 76) (kx_dd d_Mo_failsOf 47 rfl) rfl rfl ?_
  refine kx_getR (pc := 77) (b := 130) fl_Mo_348 (hm.k 0 rfl) rfl (hm.r 45 rfl) (kx_dd d_Mo_failsOf 48 rfl) ?_
  refine kx_iload_n (pc := 80) (kx_dd d_Mo_failsOf 49 rfl) rfl rfl ?_
  refine kx_ialdn (pc := 81) c (hm.t 46 rfl) rfl (by omega) (by decide) (kx_dd d_Mo_failsOf 50 rfl) ?_
  refine kx_iconst (pc := 82) (v := 3) (kx_dd d_Mo_failsOf 51 rfl) rfl ?_
  refine kx_icmp_ne (pc := 83) (tgt := 93) (kx_dd d_Mo_failsOf 52 rfl) rfl (fun c83 => ?_) (fun c83 => ?_)
  · rw [f8, show (3 : Int32) = nI 3 from rfl, nI_eq (by omega) (by decide)] at c83
    have e9 : f32N D c x = x := orC_f c83
    exact y_fail93 hm nw T hwt D ho hp r hro v hv hrp c hc kn hkn x (by rw [← e9]; exact he)
  · refine kx_iload (pc := 86) (kx_dd d_Mo_failsOf 53 rfl) rfl ?_
    refine kx_bipush (pc := 88) (v := 32) (kx_dd d_Mo_failsOf 54 rfl) rfl ?_
    refine kx_ior (pc := 90) (kx_dd d_Mo_failsOf 55 rfl) ?_
    refine kx_istore_e (pc := 91) (lv' := [_, _, _, _, _]) (kx_dd d_Mo_failsOf 56 rfl) (Nat.le_of_ble_eq_true rfl) rfl ?_
    rw [f8, show (3 : Int32) = nI 3 from rfl, nI_eq (by omega) (by decide)] at c83
    have e9 : f32N D c x = x ||| 32 := orC_t c83
    rw [show (32 : Int32) = nI 32 from rfl, nI_or]
    exact y_fail93 hm nw T hwt D ho hp r hro v hv hrp c hc kn hkn (x ||| 32) (by rw [← e9]; exact he)
theorem y_fail60 {l : Launch} {g : kx_G} {d : Nat} {h : kx_Mem} (hm : SM h) (nw : Nat) (T : Nat → Nat) (hwt : WTok nw T) (D : DK) (ho : DKok D) (hp : DKm D nw T h) (r : RU) (hro : RUok r) (v : Nat) (hv : v ≤ 4) (hrp : RUm r v nw T h) (c : Nat) (hc : c < D.2.2.1.1) (kn : Nat) (hkn : kn < 2 ^ 31) (x : Nat) (he : f32N D c (f4N D r c kn x) ||| pfN r (D.2.2.1.2.2 c) (hadF D r c kn) = faiF D r c kn) : kx_X (l, g, m_Mo_failsOf, d + 4, 0, 0, (fun z9 h' => z9 = some (.int (nI (faiF D r c kn))) ∧ h' = h)) 0 0 60 [some (.ref 84), some (.int (nI c)), some (.int (nI v)), some (.int (nI kn)), some (.int (nI x))] [] h := by
  have o60 := ho.2.2.1.1
  have o150 := ho.2.2.2.1
  have oP := ho.1.1
  have hn2 := hwt.1
  have hcc := hp.2.2.1.2 c hc
  have occ := ho.2.2.1.2 c hc
  have f0 : h.1 122 c = nI (cN D.2.2.1 c 0) := (hcc.1 0 (by decide) (by decide) (by decide)).trans (occ.1 0 (by decide) (by decide) (by decide) (by decide))
  have f1 : h.1 123 c = nI (cN D.2.2.1 c 1) := (hcc.1 1 (by decide) (by decide) (by decide)).trans (occ.1 1 (by decide) (by decide) (by decide) (by decide))
  have f2 : h.1 124 c = nI (cN D.2.2.1 c 2) := (hcc.1 2 (by decide) (by decide) (by decide)).trans (occ.1 2 (by decide) (by decide) (by decide) (by decide))
  have f8 : h.1 130 c = nI (cN D.2.2.1 c 8) := (hcc.1 8 (by decide) (by decide) (by decide)).trans (occ.1 8 (by decide) (by decide) (by decide) (by decide))
  have f5 : h.1 128 c = nI (cN D.2.2.1 c 5) := hcc.2.1.trans (occ.1 5 (by decide) (by decide) (by decide) (by decide))
  obtain ⟨wi, wi1, wi2, wi3⟩ := hcc.2.2
  obtain ⟨-, q0, q1, q2, q3, q4, q5, qd, q7, q8, -⟩ := occ
  have oth := ho.2.1.2 (cN D.2.2.1 c 2) q2
  have ol : lostD D c ≤ 1999 := oth.1
  have qd9 : lostD D c ≤ (cN D.2.2.1 c 5) := qd
  have ftd : h.1 118 (cN D.2.2.1 c 2) = nI (lostD D c) := (hp.2.1.2 (cN D.2.2.1 c 2) q2).1
  have oth0 := ho.2.1.1
  have s0 : h.1 89 (11 * v + 0) = ruS r 0 := hrp.1 0 (by decide)
  have s1 : h.1 89 (11 * v + 1) = ruS r 1 := hrp.1 1 (by decide)
  have s2 : h.1 89 (11 * v + 2) = ruS r 2 := hrp.1 2 (by decide)
  refine kx_aload_n (pc := 60) (kx_dd d_Mo_failsOf 37 rfl) rfl rfl ?_
  refine kx_iload_n (pc := 61) (kx_dd d_Mo_failsOf 38 rfl) rfl rfl ?_
  refine kx_iload_n (pc := 62) (kx_dd d_Mo_failsOf 39 rfl) rfl rfl ?_
  refine kx_iload_n (pc := 63) (kx_dd d_Mo_failsOf 40 rfl) rfl rfl ?_
  refine kx_invV (pc := 64) (a := 84) (as := [_, _, _]) (kx_dd d_Mo_failsOf 41 rfl) ⟨lk_Mo_544, wi_Mo_chainFails, we_Mo_chainFails⟩ w_Mo_chainFails (hm.k 0 rfl) rfl rfl rfl rfl (Nat.le_of_ble_eq_true rfl) (y_chainFails (d := d) hm nw T hwt D ho hp r hro v hv hrp c hc kn hkn) (Nat.le_refl _) ⟨Nat.le_refl _, Nat.le_refl _⟩ (fun v h' hq => ?_)
  obtain ⟨rfl, he⟩ := hq
  rw [he]
  clear he
  refine kx_if_eq (pc := 67) (tgt := 76) (kx_dd d_Mo_failsOf 42 rfl) rfl (fun c67 => ?_) (fun c67 => ?_)
  · rw [bP_0, Classical.not_not] at c67
    have e9 : f4N D r c kn x = x := orC_f (fun z => z c67)
    exact y_fail76 hm nw T hwt D ho hp r hro v hv hrp c hc kn hkn x (by rw [← e9]; exact he)
  · refine kx_iload (pc := 70) (kx_dd d_Mo_failsOf 43 rfl) rfl ?_
    refine kx_iconst (pc := 72) (v := 4) (kx_dd d_Mo_failsOf 44 rfl) rfl ?_
    refine kx_ior (pc := 73) (kx_dd d_Mo_failsOf 45 rfl) ?_
    refine kx_istore_e (pc := 74) (lv' := [_, _, _, _, _]) (kx_dd d_Mo_failsOf 46 rfl) (Nat.le_of_ble_eq_true rfl) rfl ?_
    rw [bP_0, Classical.not_not] at c67
    have e9 : f4N D r c kn x = x ||| 4 := orC_t c67
    rw [show (4 : Int32) = nI 4 from rfl, nI_or]
    exact y_fail76 hm nw T hwt D ho hp r hro v hv hrp c hc kn hkn (x ||| 4) (by rw [← e9]; exact he)
theorem y_fail22 {l : Launch} {g : kx_G} {d : Nat} {h : kx_Mem} (hm : SM h) (nw : Nat) (T : Nat → Nat) (hwt : WTok nw T) (D : DK) (ho : DKok D) (hp : DKm D nw T h) (r : RU) (hro : RUok r) (v : Nat) (hv : v ≤ 4) (hrp : RUm r v nw T h) (c : Nat) (hc : c < D.2.2.1.1) (kn : Nat) (hkn : kn < 2 ^ 31) (x : Nat) (he : f32N D c (f4N D r c kn (f2N D r c x)) ||| pfN r (D.2.2.1.2.2 c) (hadF D r c kn) = faiF D r c kn) : kx_X (l, g, m_Mo_failsOf, d + 4, 0, 0, (fun z9 h' => z9 = some (.int (nI (faiF D r c kn))) ∧ h' = h)) 0 0 22 [some (.ref 84), some (.int (nI c)), some (.int (nI v)), some (.int (nI kn)), some (.int (nI x))] [] h := by
  have o60 := ho.2.2.1.1
  have o150 := ho.2.2.2.1
  have oP := ho.1.1
  have hn2 := hwt.1
  have hcc := hp.2.2.1.2 c hc
  have occ := ho.2.2.1.2 c hc
  have f0 : h.1 122 c = nI (cN D.2.2.1 c 0) := (hcc.1 0 (by decide) (by decide) (by decide)).trans (occ.1 0 (by decide) (by decide) (by decide) (by decide))
  have f1 : h.1 123 c = nI (cN D.2.2.1 c 1) := (hcc.1 1 (by decide) (by decide) (by decide)).trans (occ.1 1 (by decide) (by decide) (by decide) (by decide))
  have f2 : h.1 124 c = nI (cN D.2.2.1 c 2) := (hcc.1 2 (by decide) (by decide) (by decide)).trans (occ.1 2 (by decide) (by decide) (by decide) (by decide))
  have f8 : h.1 130 c = nI (cN D.2.2.1 c 8) := (hcc.1 8 (by decide) (by decide) (by decide)).trans (occ.1 8 (by decide) (by decide) (by decide) (by decide))
  have f5 : h.1 128 c = nI (cN D.2.2.1 c 5) := hcc.2.1.trans (occ.1 5 (by decide) (by decide) (by decide) (by decide))
  obtain ⟨wi, wi1, wi2, wi3⟩ := hcc.2.2
  obtain ⟨-, q0, q1, q2, q3, q4, q5, qd, q7, q8, -⟩ := occ
  have oth := ho.2.1.2 (cN D.2.2.1 c 2) q2
  have ol : lostD D c ≤ 1999 := oth.1
  have qd9 : lostD D c ≤ (cN D.2.2.1 c 5) := qd
  have ftd : h.1 118 (cN D.2.2.1 c 2) = nI (lostD D c) := (hp.2.1.2 (cN D.2.2.1 c 2) q2).1
  have oth0 := ho.2.1.1
  have s0 : h.1 89 (11 * v + 0) = ruS r 0 := hrp.1 0 (by decide)
  have s1 : h.1 89 (11 * v + 1) = ruS r 1 := hrp.1 1 (by decide)
  have s2 : h.1 89 (11 * v + 2) = ruS r 2 := hrp.1 2 (by decide)
  refine kx_aload_n (pc := 22) (kx_dd d_Mo_failsOf 13 rfl) rfl rfl ?_
  refine kx_getR (pc := 23) (b := 118) fl_Mo_312 (hm.k 0 rfl) rfl (hm.r 33 rfl) (kx_dd d_Mo_failsOf 14 rfl) ?_
  refine kx_aload_n (pc := 26) (kx_dd d_Mo_failsOf 15 rfl) rfl rfl ?_
  refine kx_getR (pc := 27) (b := 124) fl_Mo_330 (hm.k 0 rfl) rfl (hm.r 39 rfl) (kx_dd d_Mo_failsOf 16 rfl) ?_
  refine kx_iload_n (pc := 30) (kx_dd d_Mo_failsOf 17 rfl) rfl rfl ?_
  refine kx_ialdn (pc := 31) c (hm.t 40 rfl) rfl (by omega) (by decide) (kx_dd d_Mo_failsOf 18 rfl) ?_
  refine kx_ialdn (pc := 32) (cN D.2.2.1 c 2) (hm.t 34 rfl) (by rw [f2]) (by omega) (by decide) (kx_dd d_Mo_failsOf 19 rfl) ?_
  refine kx_i2l (pc := 33) (kx_dd d_Mo_failsOf 20 rfl) ?_
  refine kx_aload_n (pc := 34) (kx_dd d_Mo_failsOf 21 rfl) rfl rfl ?_
  refine kx_iload_n (pc := 35) (kx_dd d_Mo_failsOf 22 rfl) rfl rfl ?_
  refine kx_iconst (pc := 36) (v := 1) (kx_dd d_Mo_failsOf 23 rfl) rfl ?_
  refine kx_invV (pc := 37) (a := 84) (as := [_, _]) (kx_dd d_Mo_failsOf 24 rfl) ⟨lk_Mo_162, wi_Mo_ruleOf, we_Mo_ruleOf⟩ w_Mo_ruleOf (hm.k 0 rfl) rfl rfl rfl rfl (Nat.le_of_ble_eq_true rfl) (y_ruleOf (d := d + 3) hm v 1 hv (by decide)) (Nat.le_refl _) ⟨Nat.le_refl _, Nat.le_refl _⟩ (fun v h' hq => ?_)
  obtain ⟨rfl, he⟩ := hq
  rw [he]
  clear he
  refine kx_i2l (pc := 40) (kx_dd d_Mo_failsOf 25 rfl) ?_
  refine kx_aload_n (pc := 41) (kx_dd d_Mo_failsOf 26 rfl) rfl rfl ?_
  refine kx_iload_n (pc := 42) (kx_dd d_Mo_failsOf 27 rfl) rfl rfl ?_
  refine kx_iconst (pc := 43) (v := 2) (kx_dd d_Mo_failsOf 28 rfl) rfl ?_
  refine kx_invV (pc := 44) (a := 84) (as := [_, _]) (kx_dd d_Mo_failsOf 29 rfl) ⟨lk_Mo_162, wi_Mo_ruleOf, we_Mo_ruleOf⟩ w_Mo_ruleOf (hm.k 0 rfl) rfl rfl rfl rfl (Nat.le_of_ble_eq_true rfl) (y_ruleOf (d := d + 3) hm v 2 hv (by decide)) (Nat.le_refl _) ⟨Nat.le_refl _, Nat.le_refl _⟩ (fun v h' hq => ?_)
  obtain ⟨rfl, he⟩ := hq
  rw [he]
  clear he
  refine kx_i2l (pc := 47) (kx_dd d_Mo_failsOf 30 rfl) ?_
  rw [ftd, s1, s2]
  refine kx_invS (pc := 48) (as := [_, _, _]) (kx_dd d_Mo_failsOf 31 rfl) ⟨lk_Mo_5, wt_Mo_in⟩ w_Mo_in rfl rfl (Nat.le_of_ble_eq_true rfl) (y_in (d := d + 3) _ _ _) (Nat.le_refl _) ⟨Nat.le_refl _, Nat.le_refl _⟩ (fun v h' hq => ?_)
  obtain ⟨rfl, he⟩ := hq
  rw [he]
  clear he
  refine kx_if_ne (pc := 51) (tgt := 60) (kx_dd d_Mo_failsOf 32 rfl) rfl (fun c51 => ?_) (fun c51 => ?_)
  · rw [bP_0, Classical.not_not, w_le, w_le] at c51
    have e9 : f2N D r c x = x := orC_f (fun z => z c51)
    exact y_fail60 hm nw T hwt D ho hp r hro v hv hrp c hc kn hkn x (by rw [← e9]; exact he)
  · refine kx_iload (pc := 54) (kx_dd d_Mo_failsOf 33 rfl) rfl ?_
    refine kx_iconst (pc := 56) (v := 2) (kx_dd d_Mo_failsOf 34 rfl) rfl ?_
    refine kx_ior (pc := 57) (kx_dd d_Mo_failsOf 35 rfl) ?_
    refine kx_istore_e (pc := 58) (lv' := [_, _, _, _, _]) (kx_dd d_Mo_failsOf 36 rfl) (Nat.le_of_ble_eq_true rfl) rfl ?_
    rw [bP_0, w_le, w_le] at c51
    have e9 : f2N D r c x = x ||| 2 := orC_t c51
    rw [show (2 : Int32) = nI 2 from rfl, nI_or]
    exact y_fail60 hm nw T hwt D ho hp r hro v hv hrp c hc kn hkn (x ||| 2) (by rw [← e9]; exact he)
theorem y_failsOf {l : Launch} {g : kx_G} {d : Nat} {h : kx_Mem} (hm : SM h) (nw : Nat) (T : Nat → Nat) (hwt : WTok nw T) (D : DK) (ho : DKok D) (hp : DKm D nw T h) (r : RU) (hro : RUok r) (v : Nat) (hv : v ≤ 4) (hrp : RUm r v nw T h) (c : Nat) (hc : c < D.2.2.1.1) (kn : Nat) (hkn : kn < 2 ^ 31) : kx_Sp l g m_Mo_failsOf [.ref 84, .int (nI c), .int (nI v), .int (nI kn)] h (d + 4) 0 0 (fun z9 h' => z9 = some (.int (nI (faiF D r c kn))) ∧ h' = h) := by
  have o60 := ho.2.2.1.1
  have o150 := ho.2.2.2.1
  have oP := ho.1.1
  have hn2 := hwt.1
  have hcc := hp.2.2.1.2 c hc
  have occ := ho.2.2.1.2 c hc
  have f0 : h.1 122 c = nI (cN D.2.2.1 c 0) := (hcc.1 0 (by decide) (by decide) (by decide)).trans (occ.1 0 (by decide) (by decide) (by decide) (by decide))
  have f1 : h.1 123 c = nI (cN D.2.2.1 c 1) := (hcc.1 1 (by decide) (by decide) (by decide)).trans (occ.1 1 (by decide) (by decide) (by decide) (by decide))
  have f2 : h.1 124 c = nI (cN D.2.2.1 c 2) := (hcc.1 2 (by decide) (by decide) (by decide)).trans (occ.1 2 (by decide) (by decide) (by decide) (by decide))
  have f8 : h.1 130 c = nI (cN D.2.2.1 c 8) := (hcc.1 8 (by decide) (by decide) (by decide)).trans (occ.1 8 (by decide) (by decide) (by decide) (by decide))
  have f5 : h.1 128 c = nI (cN D.2.2.1 c 5) := hcc.2.1.trans (occ.1 5 (by decide) (by decide) (by decide) (by decide))
  obtain ⟨wi, wi1, wi2, wi3⟩ := hcc.2.2
  obtain ⟨-, q0, q1, q2, q3, q4, q5, qd, q7, q8, -⟩ := occ
  have oth := ho.2.1.2 (cN D.2.2.1 c 2) q2
  have ol : lostD D c ≤ 1999 := oth.1
  have qd9 : lostD D c ≤ (cN D.2.2.1 c 5) := qd
  have ftd : h.1 118 (cN D.2.2.1 c 2) = nI (lostD D c) := (hp.2.1.2 (cN D.2.2.1 c 2) q2).1
  have oth0 := ho.2.1.1
  have s0 : h.1 89 (11 * v + 0) = ruS r 0 := hrp.1 0 (by decide)
  have s1 : h.1 89 (11 * v + 1) = ruS r 1 := hrp.1 1 (by decide)
  have s2 : h.1 89 (11 * v + 2) = ruS r 2 := hrp.1 2 (by decide)
  refine kx_enter_e (lv := [_, _, _, _, _]) (by decide +kernel) (Nat.le_of_ble_eq_true rfl) rfl ?_
  refine kx_aload_n (pc := 0) (kx_dd d_Mo_failsOf 0 rfl) rfl rfl ?_
  refine kx_getR (pc := 1) (b := 128) fl_Mo_342 (hm.k 0 rfl) rfl (hm.r 43 rfl) (kx_dd d_Mo_failsOf 1 rfl) ?_
  refine kx_iload_n (pc := 4) (kx_dd d_Mo_failsOf 2 rfl) rfl rfl ?_
  refine kx_ialdn (pc := 5) c (hm.t 44 rfl) rfl (by omega) (by decide) (kx_dd d_Mo_failsOf 3 rfl) ?_
  refine kx_aload_n (pc := 6) (kx_dd d_Mo_failsOf 4 rfl) rfl rfl ?_
  refine kx_iload_n (pc := 7) (kx_dd d_Mo_failsOf 5 rfl) rfl rfl ?_
  refine kx_iconst (pc := 8) (v := 0) (kx_dd d_Mo_failsOf 6 rfl) rfl ?_
  refine kx_invV (pc := 9) (a := 84) (as := [_, _]) (kx_dd d_Mo_failsOf 7 rfl) ⟨lk_Mo_162, wi_Mo_ruleOf, we_Mo_ruleOf⟩ w_Mo_ruleOf (hm.k 0 rfl) rfl rfl rfl rfl (Nat.le_of_ble_eq_true rfl) (y_ruleOf (d := d + 3) hm v 0 hv (by decide)) (Nat.le_refl _) ⟨Nat.le_refl _, Nat.le_refl _⟩ (fun v h' hq => ?_)
  obtain ⟨rfl, he⟩ := hq
  rw [he]
  clear he
  refine kx_icmp_le (pc := 12) (tgt := 19) (kx_dd d_Mo_failsOf 8 rfl) rfl (fun c12 => ?_) (fun c12 => ?_)
  · refine kx_iconst (pc := 19) (v := 0) (kx_dd d_Mo_failsOf 11 rfl) rfl ?_
    refine kx_istore_e (pc := 20) (lv' := [_, _, _, _, _]) (kx_dd d_Mo_failsOf 12 rfl) (Nat.le_of_ble_eq_true rfl) rfl ?_
    rw [s0, f5] at c12
    have e9 : f1N D r c 0 = 0 := orC_f (Int32.not_lt.mpr c12)
    rw [show (0 : Int32) = nI 0 from rfl]
    exact y_fail22 hm nw T hwt D ho hp r hro v hv hrp c hc kn hkn 0 (by have := faiF_m (D := D) (r := r) (c := c) (kn := kn); rwa [e9] at this)
  · refine kx_iconst (pc := 15) (v := 1) (kx_dd d_Mo_failsOf 9 rfl) rfl ?_
    refine kx_goto (pc := 16) (tgt := 20) (kx_dd d_Mo_failsOf 10 rfl) rfl ?_
    refine kx_istore_e (pc := 20) (lv' := [_, _, _, _, _]) (kx_dd d_Mo_failsOf 12 rfl) (Nat.le_of_ble_eq_true rfl) rfl ?_
    rw [s0, f5] at c12
    have e9 : f1N D r c 0 = 1 := orC_t (Int32.not_le.mp c12)
    rw [show (1 : Int32) = nI 1 from rfl]
    exact y_fail22 hm nw T hwt D ho hp r hro v hv hrp c hc kn hkn 1 (by have := faiF_m (D := D) (r := r) (c := c) (kn := kn); rwa [e9] at this)
