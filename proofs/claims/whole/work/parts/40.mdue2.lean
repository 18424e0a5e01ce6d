/-! the reference: part, dueOf, on -/
theorem y_roles {l : Launch} {g : kx_G} {d : Nat} {h0 : kx_Mem} (hm0 : SM h0) (nw : Nat) (T : Nat → Nat) (hwt : WTok nw T) (D : DK) (ho : DKok D) (hp0 : DKm D nw T h0) (r : RU) (td t : Nat) (ht : t < D.2.1.1) (v : Nat) (hv : v < 4) (hro : RUok r) (hrp0 : RUm r v nw T h0) (hif : h0.1 84 31 = nI v) (hck : h0.1 84 36 = nI td) (htd : td < 2 ^ 31) : ∀ f k, k + f = 4 → ∀ h w4 w5 w6 w7 w8, kx_Fc FdM h0 h → PVm D r td t h → SHm D t (duS D r td t k).1 h → kx_X (l, g, m_Mo_part, d + 5, 0, 0, (fun z9 h' => z9 = none ∧ kx_Fc FdM h0 h' ∧ SHm D t (duS D r td t 4).1 h')) 0 0 71 [some (.ref 84), some (.int (nI t)), some (.int (nI (duS D r td t k).2)), some (.int (nI k)), w4, w5, w6, w7, w8] [] h := by
  have o60 := ho.2.2.1.1
  have hn2 := hwt.1
  intro f
  induction f with
  | zero =>
    intro k hk h w4 w5 w6 w7 w8 hf hpv hsh
    have hk4 : k = 4 := by omega
    subst hk4
    have hm := hm0.fc hf
    have hp := hp0.fd hf
    have hrp := hrp0.fd hf
    have hif1 : h.1 84 31 = nI v := (hf.2 84 31 (by simp [FdM, FT])).trans hif
    have hck1 : h.1 84 36 = nI td := (hf.2 84 36 (by simp [FdM, FT])).trans hck
    refine kx_iload_n (pc := 71) (kx_dd d_Mo_part 41 rfl) rfl rfl ?_
    refine kx_iconst (pc := 72) (v := 4) (kx_dd d_Mo_part 42 rfl) rfl ?_
    refine kx_icmp_ge (pc := 73) (tgt := 309) (kx_dd d_Mo_part 43 rfl) rfl (fun c73 => ?_) (fun c73 => ?_)
    · refine kx_vret (pc := 309) rfl (kx_dd d_Mo_part 169 rfl) (Nat.le_refl _) (Nat.le_refl _) ?_
      exact ⟨rfl, hf, hsh⟩
    · exact absurd (by decide) c73
  | succ f ih =>
    intro k hk h w4 w5 w6 w7 w8 hf hpv hsh
    have hm := hm0.fc hf
    have hp := hp0.fd hf
    have hrp := hrp0.fd hf
    have hif1 : h.1 84 31 = nI v := (hf.2 84 31 (by simp [FdM, FT])).trans hif
    have hck1 : h.1 84 36 = nI td := (hf.2 84 36 (by simp [FdM, FT])).trans hck
    have hdl := duS_le ho (r := r) (td := td) ht k
    have hok := hro.2.2.2.2.2.2.2 k (by omega)
    have eo := hrp.2.1 k (by omega)
    refine kx_iload_n (pc := 71) (kx_dd d_Mo_part 41 rfl) rfl rfl ?_
    refine kx_iconst (pc := 72) (v := 4) (kx_dd d_Mo_part 42 rfl) rfl ?_
    refine kx_icmp_ge (pc := 73) (tgt := 309) (kx_dd d_Mo_part 43 rfl) rfl (fun c73 => ?_) (fun c73 => ?_)
    · exact absurd c73 (nI_ge (b := 4) (by omega) (by decide))
    · refine kx_aload_n (pc := 76) (kx_dd d_Mo_part 44 rfl) rfl rfl ?_
      refine kx_getR (pc := 77) (b := 90) fl_Mo_88 (hm.k 0 rfl) rfl (hm.r 5 rfl) (kx_dd d_Mo_part 45 rfl) ?_
      refine kx_iconst (pc := 80) (v := 4) (kx_dd d_Mo_part 46 rfl) rfl ?_
      refine kx_aload_n (pc := 81) (kx_dd d_Mo_part 47 rfl) rfl rfl ?_
      refine kx_getI (pc := 82) fl_Mo_251 (hm.k 0 rfl) rfl (kx_dd d_Mo_part 48 rfl) ?_
      refine kx_imul (pc := 85) (kx_dd d_Mo_part 49 rfl) ?_
      refine kx_iload_n (pc := 86) (kx_dd d_Mo_part 50 rfl) rfl rfl ?_
      refine kx_iadd (pc := 87) (kx_dd d_Mo_part 51 rfl) ?_
      refine kx_ialdn (pc := 88) (4 * v + k) (hm.t 6 rfl) (by rw [hif1]; exact nI_ix 4 v k) (by omega) (by decide) (kx_dd d_Mo_part 52 rfl) ?_
      rw [eo]
      refine kx_istore_e (pc := 89) (lv' := [_, _, _, _, _, _, _, _, _]) (kx_dd d_Mo_part 53 rfl) (Nat.le_of_ble_eq_true rfl) rfl ?_
      refine kx_iconst (pc := 91) (v := 0) (kx_dd d_Mo_part 54 rfl) rfl ?_
      refine kx_istore_e (pc := 92) (lv' := [_, _, _, _, _, _, _, _, _]) (kx_dd d_Mo_part 55 rfl) (Nat.le_of_ble_eq_true rfl) rfl ?_
      refine kx_iconst (pc := 94) (v := 0) (kx_dd d_Mo_part 56 rfl) rfl ?_
      refine kx_istore_e (pc := 95) (lv' := [_, _, _, _, _, _, _, _, _]) (kx_dd d_Mo_part 57 rfl) (Nat.le_of_ble_eq_true rfl) rfl ?_
      refine y_p1 hm0 nw T hwt D ho hp0 r td t ht (ruO r k) hok k (duS D r td t k).1 (duS D r td t k).2 hdl.1 _ (fun h2 u4 u5 u6 u7 u8 hf2 hpv2 hsh2 => ?_) D.2.2.1.1 0 (by omega) h _ _ hf hpv hsh
      refine kx_iinc_e (pc := 303) (v := nI (k + 1)) (lv' := [_, _, _, _, _, _, _, _, _]) (kx_dd d_Mo_part 167 rfl) rfl (Nat.le_of_ble_eq_true rfl) (nI_1 k) rfl ?_
      refine kx_goto (pc := 306) (tgt := 71) (kx_dd d_Mo_part 168 rfl) rfl ?_
      exact ih (k + 1) (by omega) h2 _ _ _ _ _ hf2 hpv2 hsh2
theorem y_p0 {l : Launch} {g : kx_G} {d : Nat} {h0 : kx_Mem} (hm0 : SM h0) (nw : Nat) (T : Nat → Nat) (hwt : WTok nw T) (D : DK) (ho : DKok D) (hp0 : DKm D nw T h0) (r : RU) (td t : Nat) (ht : t < D.2.1.1) (v : Nat) (hv : v < 4) (hro : RUok r) (hrp0 : RUm r v nw T h0) (hif : h0.1 84 31 = nI v) (hck : h0.1 84 36 = nI td) (htd : td < 2 ^ 31) : ∀ f k, k + f = D.2.2.1.1 → ∀ h, kx_Fc FdM h0 h → (∀ i, i < k → cN D.2.2.1 i 2 = t → h.1 144 i = bP (prB D r td t i = true) ∧ h.1 145 i = nI 0) → kx_X (l, g, m_Mo_part, d + 5, 0, 0, (fun z9 h' => z9 = none ∧ kx_Fc FdM h0 h' ∧ SHm D t (duS D r td t 4).1 h')) 0 0 2 [some (.ref 84), some (.int (nI t)), some (.int (nI k)), none, none, none, none, none, none] [] h := by
  have o60 := ho.2.2.1.1
  have hn2 := hwt.1
  intro f
  induction f with
  | zero =>
    intro k hk h hf hz
    have hk4 : k = D.2.2.1.1 := by omega
    subst hk4
    have hm := hm0.fc hf
    have hp := hp0.fd hf
    have hrp := hrp0.fd hf
    have hif1 : h.1 84 31 = nI v := (hf.2 84 31 (by simp [FdM, FT])).trans hif
    have hck1 : h.1 84 36 = nI td := (hf.2 84 36 (by simp [FdM, FT])).trans hck
    refine kx_iload_n (pc := 2) (kx_dd d_Mo_part 2 rfl) rfl rfl ?_
    refine kx_aload_n (pc := 3) (kx_dd d_Mo_part 3 rfl) rfl rfl ?_
    refine kx_getI (pc := 4) fl_Mo_510 (hm.k 0 rfl) rfl (kx_dd d_Mo_part 4 rfl) ?_
    refine kx_icmp_ge (pc := 7) (tgt := 63) (kx_dd d_Mo_part 5 rfl) rfl (fun c7 => ?_) (fun c7 => ?_)
    · refine kx_aload_n (pc := 63) (kx_dd d_Mo_part 35 rfl) rfl rfl ?_
      refine kx_iload_n (pc := 64) (kx_dd d_Mo_part 36 rfl) rfl rfl ?_
      refine kx_invV (pc := 65) (a := 84) (as := [_]) (kx_dd d_Mo_part 37 rfl) ⟨lk_Mo_503, wi_Mo_worthOf, we_Mo_worthOf⟩ w_Mo_worthOf (hm.k 0 rfl) rfl rfl rfl rfl (Nat.le_of_ble_eq_true rfl) (y_worthOf (d := d + 2) hm D.2.1 ho.2.1 hp.2.1 t ht) (Nat.le_refl _) ⟨Nat.le_refl _, Nat.le_refl _⟩ (fun v h' hq => ?_)
      obtain ⟨rfl, hq1⟩ := hq
      have hf2 : kx_Fc FdM h h' := hq1.mono (fun a j e => Or.inr (Or.inr e))
      refine kx_istore_ne (pc := 68) (lv' := [_, _, _, _, _, _, _, _, _]) (kx_dd d_Mo_part 38 rfl) rfl (Nat.le_of_ble_eq_true rfl) rfl ?_
      refine kx_iconst (pc := 69) (v := 0) (kx_dd d_Mo_part 39 rfl) rfl ?_
      refine kx_istore_ne (pc := 70) (lv' := [_, _, _, _, _, _, _, _, _]) (kx_dd d_Mo_part 40 rfl) rfl (Nat.le_of_ble_eq_true rfl) rfl ?_
      exact y_roles hm0 nw T hwt D ho hp0 r td t ht v hv hro hrp0 hif hck htd 4 0 (by omega) h' _ _ _ _ _ (hf.tr hf2) (fun i hi ht => by rw [hq1.2 144 i (by simp [FT])]; exact (hz i hi ht).1) (fun i hi ht => by rw [hq1.2 145 i (by simp [FT])]; exact (hz i hi ht).2)
    · exact absurd (by rw [hp.2.2.1.1]; exact Int32.le_refl _) c7
  | succ f ih =>
    intro k hk h hf hz
    have hm := hm0.fc hf
    have hp := hp0.fd hf
    have hrp := hrp0.fd hf
    have hif1 : h.1 84 31 = nI v := (hf.2 84 31 (by simp [FdM, FT])).trans hif
    have hck1 : h.1 84 36 = nI td := (hf.2 84 36 (by simp [FdM, FT])).trans hck
    have hcc := hp.2.2.1.2 k (by omega)
    have occ := ho.2.2.1.2 k (by omega)
    have e2 : h.1 124 k = nI (cN D.2.2.1 k 2) := (hcc.1 2 (by decide) (by decide) (by decide)).trans (occ.1 2 (by decide) (by decide) (by decide) (by decide))
    have e3 : h.1 125 k = nI (cN D.2.2.1 k 3) := (hcc.1 3 (by decide) (by decide) (by decide)).trans (occ.1 3 (by decide) (by decide) (by decide) (by decide))
    have e4 : h.1 126 k = nI (cN D.2.2.1 k 4) := (hcc.1 4 (by decide) (by decide) (by decide)).trans (occ.1 4 (by decide) (by decide) (by decide) (by decide))
    obtain ⟨-, -, -, q2, q3, q4, -⟩ := occ
    have ots := ho.2.1.1
    refine kx_iload_n (pc := 2) (kx_dd d_Mo_part 2 rfl) rfl rfl ?_
    refine kx_aload_n (pc := 3) (kx_dd d_Mo_part 3 rfl) rfl rfl ?_
    refine kx_getI (pc := 4) fl_Mo_510 (hm.k 0 rfl) rfl (kx_dd d_Mo_part 4 rfl) ?_
    refine kx_icmp_ge (pc := 7) (tgt := 63) (kx_dd d_Mo_part 5 rfl) rfl (fun c7 => ?_) (fun c7 => ?_)
    · exact absurd c7 (by rw [hp.2.2.1.1]; exact nI_ge (by omega) (by omega))
    · refine kx_aload_n (pc := 10) (kx_dd d_Mo_part 6 rfl) rfl rfl ?_
      refine kx_getR (pc := 11) (b := 124) fl_Mo_330 (hm.k 0 rfl) rfl (hm.r 39 rfl) (kx_dd d_Mo_part 7 rfl) ?_
      refine kx_iload_n (pc := 14) (kx_dd d_Mo_part 8 rfl) rfl rfl ?_
      refine kx_ialdn (pc := 15) k (hm.t 40 rfl) rfl (by omega) (by decide) (kx_dd d_Mo_part 9 rfl) ?_
      refine kx_iload_n (pc := 16) (kx_dd d_Mo_part 10 rfl) rfl rfl ?_
      refine kx_icmp_eq (pc := 17) (tgt := 23) (kx_dd d_Mo_part 11 rfl) rfl (fun c17 => ?_) (fun c17 => ?_)
      · refine kx_aload_n (pc := 23) (kx_dd d_Mo_part 13 rfl) rfl rfl ?_
        refine kx_getR (pc := 24) (b := 144) fl_Mo_390 (hm.k 0 rfl) rfl (hm.r 59 rfl) (kx_dd d_Mo_part 14 rfl) ?_
        refine kx_iload_n (pc := 27) (kx_dd d_Mo_part 15 rfl) rfl rfl ?_
        refine kx_aload_n (pc := 28) (kx_dd d_Mo_part 16 rfl) rfl rfl ?_
        refine kx_iload_n (pc := 29) (kx_dd d_Mo_part 17 rfl) rfl rfl ?_
        refine kx_aload_n (pc := 30) (kx_dd d_Mo_part 18 rfl) rfl rfl ?_
        refine kx_getI (pc := 31) fl_Mo_251 (hm.k 0 rfl) rfl (kx_dd d_Mo_part 19 rfl) ?_
        refine kx_aload_n (pc := 34) (kx_dd d_Mo_part 20 rfl) rfl rfl ?_
        refine kx_getI (pc := 35) fl_Mo_426 (hm.k 0 rfl) rfl (kx_dd d_Mo_part 21 rfl) ?_
        rw [hif1, hck1]
        refine kx_invV (pc := 38) (a := 84) (as := [_, _, _]) (kx_dd d_Mo_part 22 rfl) ⟨lk_Mo_556, wi_Mo_failsOf, we_Mo_failsOf⟩ w_Mo_failsOf (hm.k 0 rfl) rfl rfl rfl rfl (Nat.le_of_ble_eq_true rfl) (y_failsOf (d := d) hm nw T hwt D ho hp r hro v (by omega) hrp k (by omega) td htd) (Nat.le_refl _) ⟨Nat.le_refl _, Nat.le_refl _⟩ (fun v h' hq => ?_)
        obtain ⟨rfl, he⟩ := hq
        rw [he]
        clear he
        refine kx_if_ne (pc := 41) (tgt := 48) (kx_dd d_Mo_part 23 rfl) rfl (fun c41 => ?_) (fun c41 => ?_)
        · refine kx_iconst (pc := 48) (v := 0) (kx_dd d_Mo_part 26 rfl) rfl ?_
          refine kx_zastn (pc := 49) k (hm.t 60 rfl) (by decide) rfl (by omega) (by decide) (kx_dd d_Mo_part 27 rfl) ?_
          refine kx_aload_n (pc := 50) (kx_dd d_Mo_part 28 rfl) rfl rfl ?_
          refine kx_getR (pc := 51) (b := 145) fl_Mo_393 (hm.k 0 rfl) rfl (hm.r 60 rfl) (kx_dd d_Mo_part 29 rfl) ?_
          refine kx_iload_n (pc := 54) (kx_dd d_Mo_part 30 rfl) rfl rfl ?_
          refine kx_iconst (pc := 55) (v := 0) (kx_dd d_Mo_part 31 rfl) rfl ?_
          refine kx_iastn (pc := 56) k (hm.t 61 rfl) (by decide) rfl (by omega) (by decide) (kx_dd d_Mo_part 32 rfl) ?_
          refine kx_iinc_e (pc := 57) (v := nI (k + 1)) (lv' := [_, _, _, _, _, _, _, _, _]) (kx_dd d_Mo_part 33 rfl) rfl (Nat.le_of_ble_eq_true rfl) (nI_1 k) rfl ?_
          refine kx_goto (pc := 60) (tgt := 2) (kx_dd d_Mo_part 34 rfl) rfl ?_
          rw [e2, nI_eq (by omega) (by omega)] at c17
          rw [nI_z (Nat.lt_of_lt_of_le faiF_lt (by decide))] at c41
          have hpb : bP (prB D r td t k = true) = 0 := bP_f (fun z => c41 (of_decide_eq_true z).2)
          refine ih (k + 1) (by omega) _ ((hf.tr (kx_Fc.set (Or.inl rfl))).tr (kx_Fc.set (Or.inr (Or.inl rfl)))) (fun i hi ht => ?_)
          by_cases e : i = k
          · subst e
            rw [hpb]
            refine ⟨?_, ?_⟩
            · simp [kx_setI, kx_up, vp_nar, narrow]
            · simp [kx_setI, kx_up, nI_0]
          · rw [← (hz i (by omega) ht).1, ← (hz i (by omega) ht).2]
            simp [kx_setI, kx_up, e]
        · refine kx_iconst (pc := 44) (v := 1) (kx_dd d_Mo_part 24 rfl) rfl ?_
          refine kx_goto (pc := 45) (tgt := 49) (kx_dd d_Mo_part 25 rfl) rfl ?_
          refine kx_zastn (pc := 49) k (hm.t 60 rfl) (by decide) rfl (by omega) (by decide) (kx_dd d_Mo_part 27 rfl) ?_
          refine kx_aload_n (pc := 50) (kx_dd d_Mo_part 28 rfl) rfl rfl ?_
          refine kx_getR (pc := 51) (b := 145) fl_Mo_393 (hm.k 0 rfl) rfl (hm.r 60 rfl) (kx_dd d_Mo_part 29 rfl) ?_
          refine kx_iload_n (pc := 54) (kx_dd d_Mo_part 30 rfl) rfl rfl ?_
          refine kx_iconst (pc := 55) (v := 0) (kx_dd d_Mo_part 31 rfl) rfl ?_
          refine kx_iastn (pc := 56) k (hm.t 61 rfl) (by decide) rfl (by omega) (by decide) (kx_dd d_Mo_part 32 rfl) ?_
          refine kx_iinc_e (pc := 57) (v := nI (k + 1)) (lv' := [_, _, _, _, _, _, _, _, _]) (kx_dd d_Mo_part 33 rfl) rfl (Nat.le_of_ble_eq_true rfl) (nI_1 k) rfl ?_
          refine kx_goto (pc := 60) (tgt := 2) (kx_dd d_Mo_part 34 rfl) rfl ?_
          rw [e2, nI_eq (by omega) (by omega)] at c17
          rw [nI_z (Nat.lt_of_lt_of_le faiF_lt (by decide))] at c41
          have hpb : bP (prB D r td t k = true) = 1 := bP_t (decide_eq_true ⟨c17, c41⟩)
          refine ih (k + 1) (by omega) _ ((hf.tr (kx_Fc.set (Or.inl rfl))).tr (kx_Fc.set (Or.inr (Or.inl rfl)))) (fun i hi ht => ?_)
          by_cases e : i = k
          · subst e
            rw [hpb]
            refine ⟨?_, ?_⟩
            · simp [kx_setI, kx_up, vp_nar, narrow]
            · simp [kx_setI, kx_up, nI_0]
          · rw [← (hz i (by omega) ht).1, ← (hz i (by omega) ht).2]
            simp [kx_setI, kx_up, e]
      · refine kx_goto (pc := 20) (tgt := 57) (kx_dd d_Mo_part 12 rfl) rfl ?_
        refine kx_iinc_e (pc := 57) (v := nI (k + 1)) (lv' := [_, _, _, _, _, _, _, _, _]) (kx_dd d_Mo_part 33 rfl) rfl (Nat.le_of_ble_eq_true rfl) (nI_1 k) rfl ?_
        refine kx_goto (pc := 60) (tgt := 2) (kx_dd d_Mo_part 34 rfl) rfl ?_
        rw [e2, nI_eq (by omega) (by omega)] at c17
        exact ih (k + 1) (by omega) h hf (fun i hi ht => hz i (by rcases Nat.lt_succ_iff_lt_or_eq.mp hi with z | z; exact z; exact absurd (z ▸ ht) c17) ht)
theorem y_part {l : Launch} {g : kx_G} {d : Nat} {h : kx_Mem} (hm : SM h) (nw : Nat) (T : Nat → Nat) (hwt : WTok nw T) (D : DK) (ho : DKok D) (hp : DKm D nw T h) (r : RU) (td t : Nat) (ht : t < D.2.1.1) (v : Nat) (hv : v < 4) (hro : RUok r) (hrp : RUm r v nw T h) (hif : h.1 84 31 = nI v) (hck : h.1 84 36 = nI td) (htd : td < 2 ^ 31) : kx_Sp l g m_Mo_part [.ref 84, .int (nI t)] h (d + 5) 0 0 (fun z9 h' => z9 = none ∧ kx_Fc FdM h h' ∧ SHm D t (duS D r td t 4).1 h') := by
  refine kx_enter_e (lv := [_, _, _, _, _, _, _, _, _]) (by decide +kernel) (Nat.le_of_ble_eq_true rfl) rfl ?_
  refine kx_iconst (pc := 0) (v := 0) (kx_dd d_Mo_part 0 rfl) rfl ?_
  refine kx_istore_ne (pc := 1) (lv' := [_, _, _, _, _, _, _, _, _]) (kx_dd d_Mo_part 1 rfl) rfl (Nat.le_of_ble_eq_true rfl) rfl ?_
  exact y_p0 hm nw T hwt D ho hp r td t ht v hv hro hrp hif hck htd D.2.2.1.1 0 (by omega) h kx_Fc.rf (fun i hi => absurd hi (Nat.not_lt_zero i))
theorem y_dueOf {l : Launch} {g : kx_G} {d : Nat} {h : kx_Mem} (hm : SM h) (nw : Nat) (T : Nat → Nat) (hwt : WTok nw T) (D : DK) (ho : DKok D) (hp : DKm D nw T h) (r : RU) (td : Nat) (v : Nat) (hv : v < 4) (hro : RUok r) (hrp : RUm r v nw T h) (hif : h.1 84 31 = nI v) (hck : h.1 84 36 = nI td) (htd : td < 2 ^ 31) (k : Nat) (hk : k < D.2.2.1.1) : kx_Sp l g m_Mo_dueOf [.ref 84, .int (nI k)] h (d + 6) 0 0 (fun z9 h' => z9 = some (.int (nI (dueF D r td k))) ∧ kx_Fc FdM h h') := by
  have o60 := ho.2.2.1.1
  have hn2 := hwt.1
  have hcc := hp.2.2.1.2 k (by omega)
  have occ := ho.2.2.1.2 k (by omega)
  have e2 : h.1 124 k = nI (cN D.2.2.1 k 2) := (hcc.1 2 (by decide) (by decide) (by decide)).trans (occ.1 2 (by decide) (by decide) (by decide) (by decide))
  have e3 : h.1 125 k = nI (cN D.2.2.1 k 3) := (hcc.1 3 (by decide) (by decide) (by decide)).trans (occ.1 3 (by decide) (by decide) (by decide) (by decide))
  have e4 : h.1 126 k = nI (cN D.2.2.1 k 4) := (hcc.1 4 (by decide) (by decide) (by decide)).trans (occ.1 4 (by decide) (by decide) (by decide) (by decide))
  obtain ⟨-, -, -, q2, q3, q4, -⟩ := occ
  have ots := ho.2.1.1
  refine kx_enter_e (lv := [_, _]) (by decide +kernel) (Nat.le_of_ble_eq_true rfl) rfl ?_
  refine kx_aload_n (pc := 0) (kx_dd d_Mo_dueOf 0 rfl) rfl rfl ?_
  refine kx_aload_n (pc := 1) (kx_dd d_Mo_dueOf 1 rfl) rfl rfl ?_
  refine kx_getR (pc := 2) (b := 124) fl_Mo_330 (hm.k 0 rfl) rfl (hm.r 39 rfl) (kx_dd d_Mo_dueOf 2 rfl) ?_
  refine kx_iload_n (pc := 5) (kx_dd d_Mo_dueOf 3 rfl) rfl rfl ?_
  refine kx_ialdn (pc := 6) k (hm.t 40 rfl) rfl (by omega) (by decide) (kx_dd d_Mo_dueOf 4 rfl) ?_
  rw [e2]
  refine kx_invV (pc := 7) (a := 84) (as := [_]) (kx_dd d_Mo_dueOf 5 rfl) ⟨lk_Mo_562, wi_Mo_part, we_Mo_part⟩ w_Mo_part (hm.k 0 rfl) rfl rfl rfl rfl (Nat.le_of_ble_eq_true rfl) (y_part (d := d) hm nw T hwt D ho hp r td (cN D.2.2.1 k 2) q2 v hv hro hrp hif hck htd) (Nat.le_refl _) ⟨Nat.le_refl _, Nat.le_refl _⟩ (fun v h' hq => ?_)
  obtain ⟨rfl, hf, hsh⟩ := hq
  have hm := hm.fc hf
  refine kx_aload_n (pc := 10) (kx_dd d_Mo_dueOf 6 rfl) rfl rfl ?_
  refine kx_getR (pc := 11) (b := 145) fl_Mo_393 (hm.k 0 rfl) rfl (hm.r 60 rfl) (kx_dd d_Mo_dueOf 7 rfl) ?_
  refine kx_iload_n (pc := 14) (kx_dd d_Mo_dueOf 8 rfl) rfl rfl ?_
  refine kx_ialdn (pc := 15) k (hm.t 61 rfl) rfl (by omega) (by decide) (kx_dd d_Mo_dueOf 9 rfl) ?_
  refine kx_iret (pc := 16) rfl (kx_dd d_Mo_dueOf 10 rfl) (Nat.le_refl _) (Nat.le_refl _) ?_
  exact ⟨by rw [hsh k hk rfl]; rfl, hf⟩
