/-! the reference: part, dueOf -/
def FdM (a j : Nat) : Prop := a = 144 ∨ a = 145 ∨ FT a j
theorem PSm.fm {s : PS} {h h' : kx_Mem} {P : Nat → Nat → Prop} (hp : PSm s h) (hf : kx_Fc P h h') (h1 : ¬ P 84 33) (h2 : ¬ P 84 34) (h3 : ∀ a j, 107 ≤ a → a ≤ 112 → ¬ P a j) : PSm s h' := by
  have e : ∀ a, 107 ≤ a → a ≤ 112 → h'.1 a = h.1 a := fun a q1 q2 => by funext j; exact hf.2 a j (h3 a j q1 q2)
  unfold PSm
  rw [hf.2 84 33 h1, hf.2 84 34 h2, e 107 (by decide) (by decide), e 108 (by decide) (by decide), e 109 (by decide) (by decide), e 110 (by decide) (by decide), e 111 (by decide) (by decide), e 112 (by decide) (by decide)]
  exact hp
theorem CSm.fm {s : CSt} {n : Nat} {T : Nat → Nat} {h h' : kx_Mem} {P : Nat → Nat → Prop} (hp : CSm s n T h) (hf : kx_Fc P h h') (h1 : ¬ P 84 51) (h3 : ∀ a j, 122 ≤ a → a ≤ 138 → ¬ P a j) : CSm s n T h' := by
  have e : ∀ a, 122 ≤ a → a ≤ 138 → h'.1 a = h.1 a := fun a q1 q2 => by funext j; exact hf.2 a j (h3 a j q1 q2)
  refine ⟨(hf.2 84 51 h1).trans hp.1, fun c hc => ?_⟩
  obtain ⟨a1, a2, a3⟩ := hp.2 c hc
  rw [e 127 (by decide) (by decide), e 128 (by decide) (by decide)]
  exact ⟨fun j hj h5 h6 => by rw [e (122 + j) (by omega) (by omega)]; exact a1 j hj h5 h6, a2, a3⟩
theorem FSm.fm {s : FSt} {n : Nat} {T : Nat → Nat} {h h' : kx_Mem} {P : Nat → Nat → Prop} (hp : FSm s n T h) (hf : kx_Fc P h h') (h1 : ¬ P 84 52) (h3 : ∀ a j, 139 ≤ a → a ≤ 143 → ¬ P a j) : FSm s n T h' := by
  have e : ∀ a, 139 ≤ a → a ≤ 143 → h'.1 a = h.1 a := fun a q1 q2 => by funext j; exact hf.2 a j (h3 a j q1 q2)
  unfold FSm
  rw [hf.2 84 52 h1, e 139 (by decide) (by decide), e 140 (by decide) (by decide), e 141 (by decide) (by decide), e 142 (by decide) (by decide), e 143 (by decide) (by decide)]
  exact hp
theorem RUm.fm {r : RU} {v n : Nat} {T : Nat → Nat} {h h' : kx_Mem} {P : Nat → Nat → Prop} (hp : RUm r v n T h) (hf : kx_Fc P h h') (h3 : ∀ a j, 89 ≤ a → a ≤ 103 → ¬ P a j) : RUm r v n T h' := by
  have e : ∀ a, 89 ≤ a → a ≤ 103 → h'.1 a = h.1 a := fun a q1 q2 => by funext j; exact hf.2 a j (h3 a j q1 q2)
  unfold RUm
  rw [e 89 (by decide) (by decide), e 90 (by decide) (by decide), e 91 (by decide) (by decide), e 92 (by decide) (by decide), e 93 (by decide) (by decide), e 94 (by decide) (by decide), e 95 (by decide) (by decide), e 96 (by decide) (by decide), e 97 (by decide) (by decide), e 98 (by decide) (by decide), e 99 (by decide) (by decide), e 100 (by decide) (by decide), e 101 (by decide) (by decide), e 102 (by decide) (by decide), e 103 (by decide) (by decide)]
  exact hp
theorem DKm.fd {D : DK} {n : Nat} {T : Nat → Nat} {h h' : kx_Mem} (hp : DKm D n T h) (hf : kx_Fc FdM h h') : DKm D n T h' :=
  ⟨hp.1.fm hf (by simp [FdM, FT]) (by simp [FdM, FT]) (fun a j h1 h2 => by simp only [FdM, FT]; omega), hp.2.1.fc hf (by simp [FdM, FT]) (fun a h1 h2 j => by simp only [FdM, FT]; omega), hp.2.2.1.fm hf (by simp [FdM, FT]) (fun a j h1 h2 => by simp only [FdM, FT]; omega), hp.2.2.2.fm hf (by simp [FdM, FT]) (fun a j h1 h2 => by simp only [FdM, FT]; omega)⟩
theorem RUm.fd {r : RU} {v n : Nat} {T : Nat → Nat} {h h' : kx_Mem} (hp : RUm r v n T h) (hf : kx_Fc FdM h h') : RUm r v n T h' := hp.fm hf (fun a j h1 h2 => by simp only [FdM, FT]; omega)
def SHm (D : DK) (t : Nat) (f : Nat → Nat) (h : kx_Mem) : Prop := ∀ i, i < D.2.2.1.1 → cN D.2.2.1 i 2 = t → h.1 145 i = nI (f i)
def PVm (D : DK) (r : RU) (td t : Nat) (h : kx_Mem) : Prop := ∀ i, i < D.2.2.1.1 → cN D.2.2.1 i 2 = t → h.1 144 i = bP (prB D r td t i = true)
theorem SHm.set {D : DK} {t : Nat} {f f' : Nat → Nat} {h : kx_Mem} {k : Nat} (hs : SHm D t f h) (hf : ∀ i, i < D.2.2.1.1 → cN D.2.2.1 i 2 = t → i ≠ k → f' i = f i) : SHm D t f' (kx_setI h 145 k (nI (f' k))) := by
  intro i hi ht
  by_cases e : i = k
  · subst e; simp [kx_setI, kx_up]
  · rw [hf i hi ht e, ← hs i hi ht]
    simp [kx_setI, kx_up, e]
theorem PVm.set {D : DK} {r : RU} {td t k : Nat} {h : kx_Mem} {x : Int32} (hs : PVm D r td t h) : PVm D r td t (kx_setI h 145 k x) := fun i hi ht => by rw [← hs i hi ht]; simp [kx_setI, kx_up]
theorem y_isIn {l : Launch} {g : kx_G} {d : Nat} {h : kx_Mem} (hm : SM h) (nw : Nat) (T : Nat → Nat) (D : DK) (ho : DKok D) (hp : DKm D nw T h) (r : RU) (td t ro : Nat) (htt : t < 2 ^ 31) (hro : ro < 4) (hpv : PVm D r td t h) (k : Nat) (hk : k < D.2.2.1.1) : kx_Sp l g m_Mo_isIn [.ref 84, .int (nI k), .int (nI t), .int (nI ro)] h (d) 0 0 (fun v h' => v = some (.int (bP (inB D r td t ro k = true))) ∧ h' = h) := by
  have o60 := ho.2.2.1.1
  have hcc := hp.2.2.1.2 k (by omega)
  have occ := ho.2.2.1.2 k (by omega)
  have e2 : h.1 124 k = nI (cN D.2.2.1 k 2) := (hcc.1 2 (by decide) (by decide) (by decide)).trans (occ.1 2 (by decide) (by decide) (by decide) (by decide))
  have e3 : h.1 125 k = nI (cN D.2.2.1 k 3) := (hcc.1 3 (by decide) (by decide) (by decide)).trans (occ.1 3 (by decide) (by decide) (by decide) (by decide))
  have e4 : h.1 126 k = nI (cN D.2.2.1 k 4) := (hcc.1 4 (by decide) (by decide) (by decide)).trans (occ.1 4 (by decide) (by decide) (by decide) (by decide))
  obtain ⟨-, -, -, q2, q3, q4, -⟩ := occ
  have ots := ho.2.1.1
  refine kx_enter_e (lv := [_, _, _, _]) (by decide +kernel) (Nat.le_of_ble_eq_true rfl) rfl ?_
  refine kx_aload_n (pc := 0) (kx_dd d_Mo_isIn 0 rfl) rfl rfl ?_
  refine kx_getR (pc := 1) (b := 124) fl_Mo_330 (hm.k 0 rfl) rfl (hm.r 39 rfl) (kx_dd d_Mo_isIn 1 rfl) ?_
  refine kx_iload_n (pc := 4) (kx_dd d_Mo_isIn 2 rfl) rfl rfl ?_
  refine kx_ialdn (pc := 5) k (hm.t 40 rfl) rfl (by omega) (by decide) (kx_dd d_Mo_isIn 3 rfl) ?_
  refine kx_iload_n (pc := 6) (kx_dd d_Mo_isIn 4 rfl) rfl rfl ?_
  refine kx_icmp_ne (pc := 7) (tgt := 33) (kx_dd d_Mo_isIn 5 rfl) rfl (fun c7 => ?_) (fun c7 => ?_)
  · refine kx_iconst (pc := 33) (v := 0) (kx_dd d_Mo_isIn 19 rfl) rfl ?_
    refine kx_zret (pc := 34) rfl rfl (kx_dd d_Mo_isIn 20 rfl) (Nat.le_refl _) (Nat.le_refl _) ?_
    rw [e2, nI_eq (by omega) htt] at c7
    exact ⟨by rw [bP_f (show ¬ inB D r td t ro k = true from fun z => by unfold inB at z; rw [Bool.and_eq_true] at z; exact c7 (of_decide_eq_true z.1).1)], rfl⟩
  · refine kx_aload_n (pc := 10) (kx_dd d_Mo_isIn 6 rfl) rfl rfl ?_
    refine kx_getR (pc := 11) (b := 125) fl_Mo_333 (hm.k 0 rfl) rfl (hm.r 40 rfl) (kx_dd d_Mo_isIn 7 rfl) ?_
    refine kx_iload_n (pc := 14) (kx_dd d_Mo_isIn 8 rfl) rfl rfl ?_
    refine kx_ialdn (pc := 15) k (hm.t 41 rfl) rfl (by omega) (by decide) (kx_dd d_Mo_isIn 9 rfl) ?_
    refine kx_iload_n (pc := 16) (kx_dd d_Mo_isIn 10 rfl) rfl rfl ?_
    refine kx_icmp_ne (pc := 17) (tgt := 33) (kx_dd d_Mo_isIn 11 rfl) rfl (fun c17 => ?_) (fun c17 => ?_)
    · refine kx_iconst (pc := 33) (v := 0) (kx_dd d_Mo_isIn 19 rfl) rfl ?_
      refine kx_zret (pc := 34) rfl rfl (kx_dd d_Mo_isIn 20 rfl) (Nat.le_refl _) (Nat.le_refl _) ?_
      rw [e2, nI_eq (by omega) htt] at c7
      rw [e3, nI_eq (by omega) (by omega)] at c17
      exact ⟨by rw [bP_f (show ¬ inB D r td t ro k = true from fun z => by unfold inB at z; rw [Bool.and_eq_true] at z; exact c17 (of_decide_eq_true z.2))], rfl⟩
    · refine kx_aload_n (pc := 20) (kx_dd d_Mo_isIn 12 rfl) rfl rfl ?_
      refine kx_getR (pc := 21) (b := 144) fl_Mo_390 (hm.k 0 rfl) rfl (hm.r 59 rfl) (kx_dd d_Mo_isIn 13 rfl) ?_
      refine kx_iload_n (pc := 24) (kx_dd d_Mo_isIn 14 rfl) rfl rfl ?_
      refine kx_zaldn (pc := 25) k (hm.t 60 rfl) rfl (by omega) (by decide) (kx_dd d_Mo_isIn 15 rfl) ?_
      refine kx_if_eq (pc := 26) (tgt := 33) (kx_dd d_Mo_isIn 16 rfl) rfl (fun c26 => ?_) (fun c26 => ?_)
      · refine kx_iconst (pc := 33) (v := 0) (kx_dd d_Mo_isIn 19 rfl) rfl ?_
        refine kx_zret (pc := 34) rfl rfl (kx_dd d_Mo_isIn 20 rfl) (Nat.le_refl _) (Nat.le_refl _) ?_
        rw [e2, nI_eq (by omega) htt] at c7
        rw [e3, nI_eq (by omega) (by omega)] at c17
        rw [hpv k hk c7, bP_0] at c26
        exact ⟨by rw [bP_f (show ¬ inB D r td t ro k = true from fun z => by unfold inB at z; rw [Bool.and_eq_true] at z; exact c26 z.1)], rfl⟩
      · refine kx_iconst (pc := 29) (v := 1) (kx_dd d_Mo_isIn 17 rfl) rfl ?_
        refine kx_goto (pc := 30) (tgt := 34) (kx_dd d_Mo_isIn 18 rfl) rfl ?_
        refine kx_zret (pc := 34) rfl rfl (kx_dd d_Mo_isIn 20 rfl) (Nat.le_refl _) (Nat.le_refl _) ?_
        rw [e2, nI_eq (by omega) htt] at c7
        rw [e3, nI_eq (by omega) (by omega)] at c17
        rw [hpv k hk c7, bP_0] at c26
        rw [Classical.not_not] at c26
        exact ⟨by rw [bP_t (show inB D r td t ro k = true from by unfold inB; rw [Bool.and_eq_true]; exact ⟨c26, decide_eq_true c17⟩)], rfl⟩
theorem y_p3 {l : Launch} {g : kx_G} {d : Nat} {h0 : kx_Mem} (hm0 : SM h0) (nw : Nat) (T : Nat → Nat) (hwt : WTok nw T) (D : DK) (ho : DKok D) (hp0 : DKm D nw T h0) (r : RU) (td t : Nat) (ht : t < D.2.1.1) (ro : Nat) (hro : ro < 4) (kr : Nat) (sh : Nat → Nat) (L : Nat) (hL : L ≤ 999999) (Q : Option Value → kx_Mem → Prop) (kont : ∀ h w4 w5 w6 w7 w8, kx_Fc FdM h0 h → PVm D r td t h → SHm D t (sFr (inB D r td t ro) (amt D) sh D.2.2.1.1 L) h → kx_X (l, g, m_Mo_part, d + 5, 0, 0, Q) 0 0 303 [some (.ref 84), some (.int (nI t)), some (.int (nI (newL (inB D r td t ro) (amt D) D.2.2.1.1 L))), some (.int (nI kr)), some (.int w4), some (.int w5), some (.int w6), some (.int w7), w8] [] h) (hbig : ¬ (aK (inB D r td t ro) (amt D) D.2.2.1.1) ≤ L) : ∀ f k, k + f = D.2.2.1.1 → ∀ h, kx_Fc FdM h0 h → PVm D r td t h → SHm D t (sF3 (inB D r td t ro) (amt D) sh D.2.2.1.1 L k) h → kx_X (l, g, m_Mo_part, d + 5, 0, 0, Q) 0 0 246 [some (.ref 84), some (.int (nI t)), some (.int (nI L)), some (.int (nI kr)), some (.int (nI ro)), some (.int (nI (aK (inB D r td t ro) (amt D) D.2.2.1.1))), some (.int (nI (L - ((L - qK (inB D r td t ro) (amt D) L (aK (inB D r td t ro) (amt D) D.2.2.1.1) D.2.2.1.1) - cK (inB D r td t ro) k)))), some (.int (nI ((L - qK (inB D r td t ro) (amt D) L (aK (inB D r td t ro) (amt D) D.2.2.1.1) D.2.2.1.1) - cK (inB D r td t ro) k))), some (.int (nI k))] [] h := by
  have o60 := ho.2.2.1.1
  have hn2 := hwt.1
  have ots := ho.2.1.1
  have hA9 : (aK (inB D r td t ro) (amt D) D.2.2.1.1) ≤ 999999 * D.2.2.1.1 := aK_le D.2.2.1.1 (fun c hc => (ho.2.2.1.2 c hc).2.2.2.2.2.1)
  have hrst := rest_ok (I := (inB D r td t ro)) (am := (amt D)) hbig
  have hnl : newL (inB D r td t ro) (amt D) D.2.2.1.1 L = 0 := if_neg hbig
  intro f
  induction f with
  | zero =>
    intro k hk h hf hpv hsh
    have hk0 : k = D.2.2.1.1 := by omega
    subst hk0
    have hm := hm0.fc hf
    have hp := hp0.fd hf
    refine kx_iload (pc := 246) (kx_dd d_Mo_part 138 rfl) rfl ?_
    refine kx_aload_n (pc := 248) (kx_dd d_Mo_part 139 rfl) rfl rfl ?_
    refine kx_getI (pc := 249) fl_Mo_510 (hm.k 0 rfl) rfl (kx_dd d_Mo_part 140 rfl) ?_
    refine kx_icmp_ge (pc := 252) (tgt := 298) (kx_dd d_Mo_part 141 rfl) rfl (fun c252 => ?_) (fun c252 => ?_)
    · refine kx_iload_n (pc := 298) (kx_dd d_Mo_part 163 rfl) rfl rfl ?_
      refine kx_iload (pc := 299) (kx_dd d_Mo_part 164 rfl) rfl ?_
      refine kx_isub (pc := 301) (kx_dd d_Mo_part 165 rfl) ?_
      refine kx_istore_ne (pc := 302) (lv' := [_, _, _, _, _, _, _, _, _]) (kx_dd d_Mo_part 166 rfl) rfl (Nat.le_of_ble_eq_true rfl) rfl ?_
      have hz0 : (L - qK (inB D r td t ro) (amt D) L (aK (inB D r td t ro) (amt D) D.2.2.1.1) D.2.2.1.1) - cK (inB D r td t ro) D.2.2.1.1 = 0 := by omega
      rw [hz0, Nat.sub_zero, Int32.sub_self]
      have k1 := kont h (nI ro) (nI (aK (inB D r td t ro) (amt D) D.2.2.1.1)) (nI L) (nI 0) (some (.int (nI D.2.2.1.1))) hf hpv (fun i hi ht => by rw [hsh i hi ht, sF3_r hbig (fun _ => hi)])
      rw [hnl] at k1
      exact k1
    · exact absurd (by rw [hp.2.2.1.1]; exact Int32.le_refl _) c252
  | succ f ih =>
    intro k hk h hf hpv hsh
    have hm := hm0.fc hf
    have hp := hp0.fd hf
    have hcc := hp.2.2.1.2 k (by omega)
    have occ := ho.2.2.1.2 k (by omega)
    have e2 : h.1 124 k = nI (cN D.2.2.1 k 2) := (hcc.1 2 (by decide) (by decide) (by decide)).trans (occ.1 2 (by decide) (by decide) (by decide) (by decide))
    have e3 : h.1 125 k = nI (cN D.2.2.1 k 3) := (hcc.1 3 (by decide) (by decide) (by decide)).trans (occ.1 3 (by decide) (by decide) (by decide) (by decide))
    have e4 : h.1 126 k = nI (cN D.2.2.1 k 4) := (hcc.1 4 (by decide) (by decide) (by decide)).trans (occ.1 4 (by decide) (by decide) (by decide) (by decide))
    obtain ⟨-, -, -, q2, q3, q4, -⟩ := occ
    have ots := ho.2.1.1
    have hcm := cK_le (I := (inB D r td t ro)) k
    have hck : cK (inB D r td t ro) (k + 1) = if inB D r td t ro k then cK (inB D r td t ro) k + 1 else cK (inB D r td t ro) k := rfl
    refine kx_iload (pc := 246) (kx_dd d_Mo_part 138 rfl) rfl ?_
    refine kx_aload_n (pc := 248) (kx_dd d_Mo_part 139 rfl) rfl rfl ?_
    refine kx_getI (pc := 249) fl_Mo_510 (hm.k 0 rfl) rfl (kx_dd d_Mo_part 140 rfl) ?_
    refine kx_icmp_ge (pc := 252) (tgt := 298) (kx_dd d_Mo_part 141 rfl) rfl (fun c252 => ?_) (fun c252 => ?_)
    · exact absurd c252 (by rw [hp.2.2.1.1]; exact nI_ge (by omega) (by omega))
    · refine kx_iload (pc := 255) (kx_dd d_Mo_part 142 rfl) rfl ?_
      refine kx_if_le (pc := 257) (tgt := 298) (kx_dd d_Mo_part 143 rfl) rfl (fun c257 => ?_) (fun c257 => ?_)
      · refine kx_iload_n (pc := 298) (kx_dd d_Mo_part 163 rfl) rfl rfl ?_
        refine kx_iload (pc := 299) (kx_dd d_Mo_part 164 rfl) rfl ?_
        refine kx_isub (pc := 301) (kx_dd d_Mo_part 165 rfl) ?_
        refine kx_istore_ne (pc := 302) (lv' := [_, _, _, _, _, _, _, _, _]) (kx_dd d_Mo_part 166 rfl) rfl (Nat.le_of_ble_eq_true rfl) rfl ?_
        have hz0 : ((L - qK (inB D r td t ro) (amt D) L (aK (inB D r td t ro) (amt D) D.2.2.1.1) D.2.2.1.1) - cK (inB D r td t ro) k) = 0 := by
          rcases Nat.eq_zero_or_pos ((L - qK (inB D r td t ro) (amt D) L (aK (inB D r td t ro) (amt D) D.2.2.1.1) D.2.2.1.1) - cK (inB D r td t ro) k) with z | z
          · exact z
          · exact absurd c257 (nI_nle z (by omega))
        skip
        rw [hz0, Nat.sub_zero, Int32.sub_self]
        have k1 := kont h (nI ro) (nI (aK (inB D r td t ro) (amt D) D.2.2.1.1)) (nI L) (nI 0) (some (.int (nI k))) hf hpv (fun i hi ht => by rw [hsh i hi ht, sF3_r hbig (fun (q : cK (inB D r td t ro) i < (L - qK (inB D r td t ro) (amt D) L (aK (inB D r td t ro) (amt D) D.2.2.1.1) D.2.2.1.1)) => (show i < k by rcases Nat.lt_or_ge i k with z | z; exact z; have := cK_mono (I := (inB D r td t ro)) (k := k) i z; omega))])
        rw [hnl] at k1
        exact k1
      · have hov9 : 0 < ((L - qK (inB D r td t ro) (amt D) L (aK (inB D r td t ro) (amt D) D.2.2.1.1) D.2.2.1.1) - cK (inB D r td t ro) k) := by
          rcases Nat.eq_zero_or_pos ((L - qK (inB D r td t ro) (amt D) L (aK (inB D r td t ro) (amt D) D.2.2.1.1) D.2.2.1.1) - cK (inB D r td t ro) k) with z | z
          · exact absurd (by rw [z]; decide) c257
          · exact z
        refine kx_aload_n (pc := 260) (kx_dd d_Mo_part 144 rfl) rfl rfl ?_
        refine kx_iload (pc := 261) (kx_dd d_Mo_part 145 rfl) rfl ?_
        refine kx_iload_n (pc := 263) (kx_dd d_Mo_part 146 rfl) rfl rfl ?_
        refine kx_iload (pc := 264) (kx_dd d_Mo_part 147 rfl) rfl ?_
        refine kx_invV (pc := 266) (a := 84) (as := [_, _, _]) (kx_dd d_Mo_part 148 rfl) ⟨lk_Mo_559, wi_Mo_isIn, we_Mo_isIn⟩ w_Mo_isIn (hm.k 0 rfl) rfl rfl rfl rfl (Nat.le_of_ble_eq_true rfl) (y_isIn (d := d + 4) hm nw T D ho hp r td t ro (by omega) hro hpv k (by omega)) (Nat.le_refl _) ⟨Nat.le_refl _, Nat.le_refl _⟩ (fun v h' hq => ?_)
        obtain ⟨rfl, he⟩ := hq
        rw [he]
        clear he
        refine kx_if_ne (pc := 269) (tgt := 275) (kx_dd d_Mo_part 149 rfl) rfl (fun c269 => ?_) (fun c269 => ?_)
        · refine kx_aload_n (pc := 275) (kx_dd d_Mo_part 151 rfl) rfl rfl ?_
          refine kx_getR (pc := 276) (b := 145) fl_Mo_393 (hm.k 0 rfl) rfl (hm.r 60 rfl) (kx_dd d_Mo_part 152 rfl) ?_
          refine kx_iload (pc := 279) (kx_dd d_Mo_part 153 rfl) rfl ?_
          refine kx_dup2 (pc := 281) (kx_dd d_Mo_part 154 rfl) rfl rfl ?_
          refine kx_ialdn (pc := 282) k (hm.t 61 rfl) rfl (by omega) (by decide) (kx_dd d_Mo_part 155 rfl) ?_
          refine kx_iconst (pc := 283) (v := 1) (kx_dd d_Mo_part 156 rfl) rfl ?_
          refine kx_iadd (pc := 284) (kx_dd d_Mo_part 157 rfl) ?_
          refine kx_iastn (pc := 285) k (hm.t 61 rfl) (by decide) rfl (by omega) (by decide) (kx_dd d_Mo_part 158 rfl) ?_
          refine kx_iinc_e (pc := 286) (v := nI (L - ((L - qK (inB D r td t ro) (amt D) L (aK (inB D r td t ro) (amt D) D.2.2.1.1) D.2.2.1.1) - cK (inB D r td t ro) k) + 1)) (lv' := [_, _, _, _, _, _, _, _, _]) (kx_dd d_Mo_part 159 rfl) rfl (Nat.le_of_ble_eq_true rfl) (nI_1 _) rfl ?_
          refine kx_iinc_e (pc := 289) (v := nI (((L - qK (inB D r td t ro) (amt D) L (aK (inB D r td t ro) (amt D) D.2.2.1.1) D.2.2.1.1) - cK (inB D r td t ro) k) - 1)) (lv' := [_, _, _, _, _, _, _, _, _]) (kx_dd d_Mo_part 160 rfl) rfl (Nat.le_of_ble_eq_true rfl) (nI_dn9 hov9) rfl ?_
          refine kx_iinc_e (pc := 292) (v := nI (k + 1)) (lv' := [_, _, _, _, _, _, _, _, _]) (kx_dd d_Mo_part 161 rfl) rfl (Nat.le_of_ble_eq_true rfl) (nI_1 k) rfl ?_
          refine kx_goto (pc := 295) (tgt := 246) (kx_dd d_Mo_part 162 rfl) rfl ?_
          rw [bP_0, Classical.not_not] at c269
          have hI := c269
          have hth : cN D.2.2.1 k 2 = t := by unfold inB at hI; rw [Bool.and_eq_true] at hI; exact (of_decide_eq_true hI.1).1
          rw [if_pos hI] at hck
          have hov : cK (inB D r td t ro) k < (L - qK (inB D r td t ro) (amt D) L (aK (inB D r td t ro) (amt D) D.2.2.1.1) D.2.2.1.1) := by omega
          rw [hsh k (by omega) hth, nI_1, ← sF3_at hI hov]
          have hset := SHm.set (f' := sF3 (inB D r td t ro) (amt D) sh D.2.2.1.1 L (k + 1)) (k := k) hsh (fun i hi ht hik => sF3_ne hik)
          rw [show ((L - qK (inB D r td t ro) (amt D) L (aK (inB D r td t ro) (amt D) D.2.2.1.1) D.2.2.1.1) - cK (inB D r td t ro) k) - 1 = (L - qK (inB D r td t ro) (amt D) L (aK (inB D r td t ro) (amt D) D.2.2.1.1) D.2.2.1.1) - cK (inB D r td t ro) (k + 1) by omega, show L - ((L - qK (inB D r td t ro) (amt D) L (aK (inB D r td t ro) (amt D) D.2.2.1.1) D.2.2.1.1) - cK (inB D r td t ro) k) + 1 = L - ((L - qK (inB D r td t ro) (amt D) L (aK (inB D r td t ro) (amt D) D.2.2.1.1) D.2.2.1.1) - cK (inB D r td t ro) (k + 1)) by omega]
          exact ih (k + 1) (by omega) _ (hf.tr (kx_Fc.set (Or.inr (Or.inl rfl)))) hpv.set hset
        · refine kx_goto (pc := 272) (tgt := 292) (kx_dd d_Mo_part 150 rfl) rfl ?_
          refine kx_iinc_e (pc := 292) (v := nI (k + 1)) (lv' := [_, _, _, _, _, _, _, _, _]) (kx_dd d_Mo_part 161 rfl) rfl (Nat.le_of_ble_eq_true rfl) (nI_1 k) rfl ?_
          refine kx_goto (pc := 295) (tgt := 246) (kx_dd d_Mo_part 162 rfl) rfl ?_
          rw [bP_0] at c269
          have hI := c269
          rw [if_neg hI] at hck
          have ih1 := ih (k + 1) (by omega) h hf hpv (fun i hi ht => by rw [hsh i hi ht, sF3_no hI])
          rw [hck] at ih1
          exact ih1
theorem y_p2 {l : Launch} {g : kx_G} {d : Nat} {h0 : kx_Mem} (hm0 : SM h0) (nw : Nat) (T : Nat → Nat) (hwt : WTok nw T) (D : DK) (ho : DKok D) (hp0 : DKm D nw T h0) (r : RU) (td t : Nat) (ht : t < D.2.1.1) (ro : Nat) (hro : ro < 4) (kr : Nat) (sh : Nat → Nat) (L : Nat) (hL : L ≤ 999999) (Q : Option Value → kx_Mem → Prop) (kont : ∀ h w4 w5 w6 w7 w8, kx_Fc FdM h0 h → PVm D r td t h → SHm D t (sFr (inB D r td t ro) (amt D) sh D.2.2.1.1 L) h → kx_X (l, g, m_Mo_part, d + 5, 0, 0, Q) 0 0 303 [some (.ref 84), some (.int (nI t)), some (.int (nI (newL (inB D r td t ro) (amt D) D.2.2.1.1 L))), some (.int (nI kr)), some (.int w4), some (.int w5), some (.int w6), some (.int w7), w8] [] h) : ∀ f k, k + f = D.2.2.1.1 → ∀ h w8, kx_Fc FdM h0 h → PVm D r td t h → (∀ i, i < D.2.2.1.1 → cN D.2.2.1 i 2 = t → i < k → h.1 145 i = nI (if inB D r td t ro i then (if (aK (inB D r td t ro) (amt D) D.2.2.1.1) ≤ L then amt D i else L * amt D i / (aK (inB D r td t ro) (amt D) D.2.2.1.1)) else sh i)) → (∀ i, i < D.2.2.1.1 → cN D.2.2.1 i 2 = t → ¬ i < k → h.1 145 i = nI (sh i)) → kx_X (l, g, m_Mo_part, d + 5, 0, 0, Q) 0 0 146 [some (.ref 84), some (.int (nI t)), some (.int (nI L)), some (.int (nI kr)), some (.int (nI ro)), some (.int (nI (aK (inB D r td t ro) (amt D) D.2.2.1.1))), some (.int (nI (if (aK (inB D r td t ro) (amt D) D.2.2.1.1) ≤ L then aK (inB D r td t ro) (amt D) k else qK (inB D r td t ro) (amt D) L (aK (inB D r td t ro) (amt D) D.2.2.1.1) k))), some (.int (nI k)), w8] [] h := by
  have o60 := ho.2.2.1.1
  have hn2 := hwt.1
  have ots := ho.2.1.1
  have hA9 : (aK (inB D r td t ro) (amt D) D.2.2.1.1) ≤ 999999 * D.2.2.1.1 := aK_le D.2.2.1.1 (fun c hc => (ho.2.2.1.2 c hc).2.2.2.2.2.1)
  intro f
  induction f with
  | zero =>
    intro k hk h w8 hf hpv hsa hsb
    have hk0 : k = D.2.2.1.1 := by omega
    subst hk0
    have hm := hm0.fc hf
    have hp := hp0.fd hf
    refine kx_iload (pc := 146) (kx_dd d_Mo_part 83 rfl) rfl ?_
    refine kx_aload_n (pc := 148) (kx_dd d_Mo_part 84 rfl) rfl rfl ?_
    refine kx_getI (pc := 149) fl_Mo_510 (hm.k 0 rfl) rfl (kx_dd d_Mo_part 85 rfl) ?_
    refine kx_icmp_ge (pc := 152) (tgt := 227) (kx_dd d_Mo_part 86 rfl) rfl (fun c152 => ?_) (fun c152 => ?_)
    · refine kx_iload (pc := 227) (kx_dd d_Mo_part 127 rfl) rfl ?_
      refine kx_iload_n (pc := 229) (kx_dd d_Mo_part 128 rfl) rfl rfl ?_
      refine kx_icmp_gt (pc := 230) (tgt := 237) (kx_dd d_Mo_part 129 rfl) rfl (fun c230 => ?_) (fun c230 => ?_)
      · refine kx_iload_n (pc := 237) (kx_dd d_Mo_part 132 rfl) rfl rfl ?_
        refine kx_iload (pc := 238) (kx_dd d_Mo_part 133 rfl) rfl ?_
        refine kx_isub (pc := 240) (kx_dd d_Mo_part 134 rfl) ?_
        refine kx_istore_e (pc := 241) (lv' := [_, _, _, _, _, _, _, _, _]) (kx_dd d_Mo_part 135 rfl) (Nat.le_of_ble_eq_true rfl) rfl ?_
        refine kx_iconst (pc := 243) (v := 0) (kx_dd d_Mo_part 136 rfl) rfl ?_
        refine kx_istore_e (pc := 244) (lv' := [_, _, _, _, _, _, _, _, _]) (kx_dd d_Mo_part 137 rfl) (Nat.le_of_ble_eq_true rfl) rfl ?_
        rw [nI_ltI (by omega) (by omega)] at c230
        have hbig : ¬ (aK (inB D r td t ro) (amt D) D.2.2.1.1) ≤ L := by omega
        have hrst := rest_ok (I := (inB D r td t ro)) (am := (amt D)) hbig
        rw [if_neg hbig, pk_sub hrst.1]
        have k1 := y_p3 hm0 nw T hwt D ho hp0 r td t ht ro hro kr sh L hL Q kont hbig D.2.2.1.1 0 (by omega) h hf hpv (fun i hi ht => by rw [hsa i hi ht hi]; unfold sF3; simp [hbig])
        rw [show cK (inB D r td t ro) 0 = 0 from rfl, Nat.sub_zero, show L - (L - qK (inB D r td t ro) (amt D) L (aK (inB D r td t ro) (amt D) D.2.2.1.1) D.2.2.1.1) = qK (inB D r td t ro) (amt D) L (aK (inB D r td t ro) (amt D) D.2.2.1.1) D.2.2.1.1 by omega] at k1
        exact k1
      · refine kx_iconst (pc := 233) (v := 0) (kx_dd d_Mo_part 130 rfl) rfl ?_
        refine kx_goto (pc := 234) (tgt := 241) (kx_dd d_Mo_part 131 rfl) rfl ?_
        refine kx_istore_e (pc := 241) (lv' := [_, _, _, _, _, _, _, _, _]) (kx_dd d_Mo_part 135 rfl) (Nat.le_of_ble_eq_true rfl) rfl ?_
        refine kx_iconst (pc := 243) (v := 0) (kx_dd d_Mo_part 136 rfl) rfl ?_
        refine kx_istore_e (pc := 244) (lv' := [_, _, _, _, _, _, _, _, _]) (kx_dd d_Mo_part 137 rfl) (Nat.le_of_ble_eq_true rfl) rfl ?_
        skip
        refine kx_iload (pc := 246) (kx_dd d_Mo_part 138 rfl) rfl ?_
        refine kx_aload_n (pc := 248) (kx_dd d_Mo_part 139 rfl) rfl rfl ?_
        refine kx_getI (pc := 249) fl_Mo_510 (hm.k 0 rfl) rfl (kx_dd d_Mo_part 140 rfl) ?_
        refine kx_icmp_ge (pc := 252) (tgt := 298) (kx_dd d_Mo_part 141 rfl) rfl (fun c252 => ?_) (fun c252 => ?_)
        · refine kx_iload_n (pc := 298) (kx_dd d_Mo_part 163 rfl) rfl rfl ?_
          refine kx_iload (pc := 299) (kx_dd d_Mo_part 164 rfl) rfl ?_
          refine kx_isub (pc := 301) (kx_dd d_Mo_part 165 rfl) ?_
          refine kx_istore_ne (pc := 302) (lv' := [_, _, _, _, _, _, _, _, _]) (kx_dd d_Mo_part 166 rfl) rfl (Nat.le_of_ble_eq_true rfl) rfl ?_
          rw [nI_ltI (by omega) (by omega)] at c230
          have hle : (aK (inB D r td t ro) (amt D) D.2.2.1.1) ≤ L := by omega
          rw [if_pos hle, pk_sub hle]
          have k1 := kont h (nI ro) (nI (aK (inB D r td t ro) (amt D) D.2.2.1.1)) (nI (aK (inB D r td t ro) (amt D) D.2.2.1.1)) 0 (some (.int 0)) hf hpv (fun i hi ht => by rw [hsa i hi ht hi]; unfold sFr newS; simp [hle])
          rw [show newL (inB D r td t ro) (amt D) D.2.2.1.1 L = L - (aK (inB D r td t ro) (amt D) D.2.2.1.1) from if_pos hle] at k1
          exact k1
        · refine kx_iload (pc := 255) (kx_dd d_Mo_part 142 rfl) rfl ?_
          refine kx_if_le (pc := 257) (tgt := 298) (kx_dd d_Mo_part 143 rfl) rfl (fun c257 => ?_) (fun c257 => ?_)
          · refine kx_iload_n (pc := 298) (kx_dd d_Mo_part 163 rfl) rfl rfl ?_
            refine kx_iload (pc := 299) (kx_dd d_Mo_part 164 rfl) rfl ?_
            refine kx_isub (pc := 301) (kx_dd d_Mo_part 165 rfl) ?_
            refine kx_istore_ne (pc := 302) (lv' := [_, _, _, _, _, _, _, _, _]) (kx_dd d_Mo_part 166 rfl) rfl (Nat.le_of_ble_eq_true rfl) rfl ?_
            rw [nI_ltI (by omega) (by omega)] at c230
            have hle : (aK (inB D r td t ro) (amt D) D.2.2.1.1) ≤ L := by omega
            rw [if_pos hle, pk_sub hle]
            have k1 := kont h (nI ro) (nI (aK (inB D r td t ro) (amt D) D.2.2.1.1)) (nI (aK (inB D r td t ro) (amt D) D.2.2.1.1)) 0 (some (.int 0)) hf hpv (fun i hi ht => by rw [hsa i hi ht hi]; unfold sFr newS; simp [hle])
            rw [show newL (inB D r td t ro) (amt D) D.2.2.1.1 L = L - (aK (inB D r td t ro) (amt D) D.2.2.1.1) from if_pos hle] at k1
            exact k1
          · exact absurd (by decide) c257
    · exact absurd (by rw [hp.2.2.1.1]; exact Int32.le_refl _) c152
  | succ f ih =>
    intro k hk h w8 hf hpv hsa hsb
    have hm := hm0.fc hf
    have hp := hp0.fd hf
    have hcc := hp.2.2.1.2 k (by omega)
    have occ := ho.2.2.1.2 k (by omega)
    have e2 : h.1 124 k = nI (cN D.2.2.1 k 2) := (hcc.1 2 (by decide) (by decide) (by decide)).trans (occ.1 2 (by decide) (by decide) (by decide) (by decide))
    have e3 : h.1 125 k = nI (cN D.2.2.1 k 3) := (hcc.1 3 (by decide) (by decide) (by decide)).trans (occ.1 3 (by decide) (by decide) (by decide) (by decide))
    have e4 : h.1 126 k = nI (cN D.2.2.1 k 4) := (hcc.1 4 (by decide) (by decide) (by decide)).trans (occ.1 4 (by decide) (by decide) (by decide) (by decide))
    obtain ⟨-, -, -, q2, q3, q4, -⟩ := occ
    have ots := ho.2.1.1
    have hqk : qK (inB D r td t ro) (amt D) L (aK (inB D r td t ro) (amt D) D.2.2.1.1) (k + 1) = if inB D r td t ro k then qK (inB D r td t ro) (amt D) L (aK (inB D r td t ro) (amt D) D.2.2.1.1) k + L * amt D k / (aK (inB D r td t ro) (amt D) D.2.2.1.1) else qK (inB D r td t ro) (amt D) L (aK (inB D r td t ro) (amt D) D.2.2.1.1) k := rfl
    have hak : aK (inB D r td t ro) (amt D) (k + 1) = if inB D r td t ro k then aK (inB D r td t ro) (amt D) k + amt D k else aK (inB D r td t ro) (amt D) k := rfl
    refine kx_iload (pc := 146) (kx_dd d_Mo_part 83 rfl) rfl ?_
    refine kx_aload_n (pc := 148) (kx_dd d_Mo_part 84 rfl) rfl rfl ?_
    refine kx_getI (pc := 149) fl_Mo_510 (hm.k 0 rfl) rfl (kx_dd d_Mo_part 85 rfl) ?_
    refine kx_icmp_ge (pc := 152) (tgt := 227) (kx_dd d_Mo_part 86 rfl) rfl (fun c152 => ?_) (fun c152 => ?_)
    · exact absurd c152 (by rw [hp.2.2.1.1]; exact nI_ge (by omega) (by omega))
    · refine kx_aload_n (pc := 155) (kx_dd d_Mo_part 87 rfl) rfl rfl ?_
      refine kx_iload (pc := 156) (kx_dd d_Mo_part 88 rfl) rfl ?_
      refine kx_iload_n (pc := 158) (kx_dd d_Mo_part 89 rfl) rfl rfl ?_
      refine kx_iload (pc := 159) (kx_dd d_Mo_part 90 rfl) rfl ?_
      refine kx_invV (pc := 161) (a := 84) (as := [_, _, _]) (kx_dd d_Mo_part 91 rfl) ⟨lk_Mo_559, wi_Mo_isIn, we_Mo_isIn⟩ w_Mo_isIn (hm.k 0 rfl) rfl rfl rfl rfl (Nat.le_of_ble_eq_true rfl) (y_isIn (d := d + 4) hm nw T D ho hp r td t ro (by omega) hro hpv k (by omega)) (Nat.le_refl _) ⟨Nat.le_refl _, Nat.le_refl _⟩ (fun v h' hq => ?_)
      obtain ⟨rfl, he⟩ := hq
      rw [he]
      clear he
      refine kx_if_ne (pc := 164) (tgt := 170) (kx_dd d_Mo_part 92 rfl) rfl (fun c164 => ?_) (fun c164 => ?_)
      · refine kx_aload_n (pc := 170) (kx_dd d_Mo_part 94 rfl) rfl rfl ?_
        refine kx_getR (pc := 171) (b := 145) fl_Mo_393 (hm.k 0 rfl) rfl (hm.r 60 rfl) (kx_dd d_Mo_part 95 rfl) ?_
        refine kx_iload (pc := 174) (kx_dd d_Mo_part 96 rfl) rfl ?_
        refine kx_iload (pc := 176) (kx_dd d_Mo_part 97 rfl) rfl ?_
        refine kx_iload_n (pc := 178) (kx_dd d_Mo_part 98 rfl) rfl rfl ?_
        refine kx_icmp_gt (pc := 179) (tgt := 192) (kx_dd d_Mo_part 99 rfl) rfl (fun c179 => ?_) (fun c179 => ?_)
        · refine kx_aload_n (pc := 192) (kx_dd d_Mo_part 105 rfl) rfl rfl ?_
          refine kx_getR (pc := 193) (b := 126) fl_Mo_336 (hm.k 0 rfl) rfl (hm.r 41 rfl) (kx_dd d_Mo_part 106 rfl) ?_
          refine kx_iload (pc := 196) (kx_dd d_Mo_part 107 rfl) rfl ?_
          refine kx_ialdn (pc := 198) k (hm.t 42 rfl) rfl (by omega) (by decide) (kx_dd d_Mo_part 108 rfl) ?_
          refine kx_i2l (pc := 199) (kx_dd d_Mo_part 109 rfl) ?_
          refine kx_iload_n (pc := 200) (kx_dd d_Mo_part 110 rfl) rfl rfl ?_
          refine kx_i2l (pc := 201) (kx_dd d_Mo_part 111 rfl) ?_
          refine kx_lmul (pc := 202) (kx_dd d_Mo_part 112 rfl) ?_
          refine kx_iload (pc := 203) (kx_dd d_Mo_part 113 rfl) rfl ?_
          refine kx_i2l (pc := 205) (kx_dd d_Mo_part 114 rfl) ?_
          refine kx_ldiv (pc := 206) (kx_dd d_Mo_part 115 rfl) (by rw [nI_l (by omega)]; exact fun z => absurd ((pk_lEQ (a := (aK (inB D r td t ro) (amt D) D.2.2.1.1)) (b := 0) (by omega) (by decide)).mp z) (by rw [nI_ltI (by omega) (by omega)] at c179; omega)) ?_
          refine kx_l2i (pc := 207) (kx_dd d_Mo_part 116 rfl) ?_
          refine kx_iastn (pc := 208) k (hm.t 61 rfl) (by decide) rfl (by omega) (by decide) (kx_dd d_Mo_part 117 rfl) ?_
          refine kx_iload (pc := 209) (kx_dd d_Mo_part 118 rfl) rfl ?_
          refine kx_aload_n (pc := 211) (kx_dd d_Mo_part 119 rfl) rfl rfl ?_
          refine kx_getR (pc := 212) (b := 145) fl_Mo_393 (hm.k 0 rfl) rfl (hm.r 60 rfl) (kx_dd d_Mo_part 120 rfl) ?_
          refine kx_iload (pc := 215) (kx_dd d_Mo_part 121 rfl) rfl ?_
          refine kx_ialdn (pc := 217) k (hm.t 61 rfl) rfl (by omega) (by decide) (kx_dd d_Mo_part 122 rfl) ?_
          refine kx_iadd (pc := 218) (kx_dd d_Mo_part 123 rfl) ?_
          refine kx_istore_e (pc := 219) (lv' := [_, _, _, _, _, _, _, _, _]) (kx_dd d_Mo_part 124 rfl) (Nat.le_of_ble_eq_true rfl) rfl ?_
          refine kx_iinc_e (pc := 221) (v := nI (k + 1)) (lv' := [_, _, _, _, _, _, _, _, _]) (kx_dd d_Mo_part 125 rfl) rfl (Nat.le_of_ble_eq_true rfl) (nI_1 k) rfl ?_
          refine kx_goto (pc := 224) (tgt := 146) (kx_dd d_Mo_part 126 rfl) rfl ?_
          rw [bP_0, Classical.not_not] at c164
          have hI := c164
          rw [if_pos hI] at hqk hak
          rw [nI_ltI (by omega) (by omega)] at c179
          have hle : ¬ (aK (inB D r td t ro) (amt D) D.2.2.1.1) ≤ L := by omega
          have hml : cN D.2.2.1 k 4 * L < 2 ^ 62 := by have : cN D.2.2.1 k 4 * L ≤ 999999 * 999999 := Nat.mul_le_mul q4 hL; omega
          have ev : ((h.1 126 k).toInt64 * (nI L).toInt64 / (nI (aK (inB D r td t ro) (amt D) D.2.2.1.1)).toInt64).toInt32 = nI (L * amt D k / (aK (inB D r td t ro) (amt D) D.2.2.1.1)) := by
            rw [e4, nI_l (by omega), nI_l (by omega), nI_l (by omega), lN_mul, pk_lDiv (by omega) (by omega) (by omega), lN_i, Nat.mul_comm]
          rw [ev, show (kx_setI h 145 k (nI (L * amt D k / (aK (inB D r td t ro) (amt D) D.2.2.1.1)))).1 145 k = nI (L * amt D k / (aK (inB D r td t ro) (amt D) D.2.2.1.1)) by simp [kx_setI, kx_up], if_neg hle, nI_add]
          have ih2 := fun hh => ih (k + 1) (by omega) (kx_setI h 145 k (nI (L * amt D k / (aK (inB D r td t ro) (amt D) D.2.2.1.1)))) w8 (hf.tr (kx_Fc.set (Or.inr (Or.inl rfl)))) hpv.set hh
          rw [if_neg hle, hqk] at ih2
          refine ih2 (fun i hi ht hik => ?_) (fun i hi ht hik => ?_)
          · by_cases e : i = k
            · subst e; rw [if_pos hI, if_neg hle]; simp [kx_setI, kx_up]
            · rw [← hsa i hi ht (by omega)]; simp [kx_setI, kx_up, e]
          · rw [← hsb i hi ht (by omega)]; simp [kx_setI, kx_up, show ¬ i = k by omega]
        · refine kx_aload_n (pc := 182) (kx_dd d_Mo_part 100 rfl) rfl rfl ?_
          refine kx_getR (pc := 183) (b := 126) fl_Mo_336 (hm.k 0 rfl) rfl (hm.r 41 rfl) (kx_dd d_Mo_part 101 rfl) ?_
          refine kx_iload (pc := 186) (kx_dd d_Mo_part 102 rfl) rfl ?_
          refine kx_ialdn (pc := 188) k (hm.t 42 rfl) rfl (by omega) (by decide) (kx_dd d_Mo_part 103 rfl) ?_
          refine kx_goto (pc := 189) (tgt := 208) (kx_dd d_Mo_part 104 rfl) rfl ?_
          refine kx_iastn (pc := 208) k (hm.t 61 rfl) (by decide) rfl (by omega) (by decide) (kx_dd d_Mo_part 117 rfl) ?_
          refine kx_iload (pc := 209) (kx_dd d_Mo_part 118 rfl) rfl ?_
          refine kx_aload_n (pc := 211) (kx_dd d_Mo_part 119 rfl) rfl rfl ?_
          refine kx_getR (pc := 212) (b := 145) fl_Mo_393 (hm.k 0 rfl) rfl (hm.r 60 rfl) (kx_dd d_Mo_part 120 rfl) ?_
          refine kx_iload (pc := 215) (kx_dd d_Mo_part 121 rfl) rfl ?_
          refine kx_ialdn (pc := 217) k (hm.t 61 rfl) rfl (by omega) (by decide) (kx_dd d_Mo_part 122 rfl) ?_
          refine kx_iadd (pc := 218) (kx_dd d_Mo_part 123 rfl) ?_
          refine kx_istore_e (pc := 219) (lv' := [_, _, _, _, _, _, _, _, _]) (kx_dd d_Mo_part 124 rfl) (Nat.le_of_ble_eq_true rfl) rfl ?_
          refine kx_iinc_e (pc := 221) (v := nI (k + 1)) (lv' := [_, _, _, _, _, _, _, _, _]) (kx_dd d_Mo_part 125 rfl) rfl (Nat.le_of_ble_eq_true rfl) (nI_1 k) rfl ?_
          refine kx_goto (pc := 224) (tgt := 146) (kx_dd d_Mo_part 126 rfl) rfl ?_
          rw [bP_0, Classical.not_not] at c164
          have hI := c164
          rw [if_pos hI] at hqk hak
          rw [nI_ltI (by omega) (by omega)] at c179
          have hle : (aK (inB D r td t ro) (amt D) D.2.2.1.1) ≤ L := by omega
          rw [e4, show (kx_setI h 145 k (nI (cN D.2.2.1 k 4))).1 145 k = nI (cN D.2.2.1 k 4) by simp [kx_setI, kx_up], if_pos hle, nI_add]
          have ih2 := fun hh => ih (k + 1) (by omega) (kx_setI h 145 k (nI (cN D.2.2.1 k 4))) w8 (hf.tr (kx_Fc.set (Or.inr (Or.inl rfl)))) hpv.set hh
          rw [if_pos hle, hak] at ih2
          refine ih2 (fun i hi ht hik => ?_) (fun i hi ht hik => ?_)
          · by_cases e : i = k
            · subst e; rw [if_pos hI, if_pos hle]; simp [kx_setI, kx_up]
            · rw [← hsa i hi ht (by omega)]; simp [kx_setI, kx_up, e]
          · rw [← hsb i hi ht (by omega)]; simp [kx_setI, kx_up, show ¬ i = k by omega]
      · refine kx_goto (pc := 167) (tgt := 221) (kx_dd d_Mo_part 93 rfl) rfl ?_
        refine kx_iinc_e (pc := 221) (v := nI (k + 1)) (lv' := [_, _, _, _, _, _, _, _, _]) (kx_dd d_Mo_part 125 rfl) rfl (Nat.le_of_ble_eq_true rfl) (nI_1 k) rfl ?_
        refine kx_goto (pc := 224) (tgt := 146) (kx_dd d_Mo_part 126 rfl) rfl ?_
        rw [bP_0] at c164
        have hI := c164
        rw [if_neg hI] at hqk hak
        have ih1 := ih (k + 1) (by omega) h w8 hf hpv (fun i hi ht hik => ?_) (fun i hi ht hik => hsb i hi ht (by omega))
        · rw [hqk, hak] at ih1
          exact ih1
        · by_cases e : i = k
          · subst e; rw [hsb i hi ht (by omega), if_neg hI]
          · exact hsa i hi ht (by omega)
theorem y_p1 {l : Launch} {g : kx_G} {d : Nat} {h0 : kx_Mem} (hm0 : SM h0) (nw : Nat) (T : Nat → Nat) (hwt : WTok nw T) (D : DK) (ho : DKok D) (hp0 : DKm D nw T h0) (r : RU) (td t : Nat) (ht : t < D.2.1.1) (ro : Nat) (hro : ro < 4) (kr : Nat) (sh : Nat → Nat) (L : Nat) (hL : L ≤ 999999) (Q : Option Value → kx_Mem → Prop) (kont : ∀ h w4 w5 w6 w7 w8, kx_Fc FdM h0 h → PVm D r td t h → SHm D t (sFr (inB D r td t ro) (amt D) sh D.2.2.1.1 L) h → kx_X (l, g, m_Mo_part, d + 5, 0, 0, Q) 0 0 303 [some (.ref 84), some (.int (nI t)), some (.int (nI (newL (inB D r td t ro) (amt D) D.2.2.1.1 L))), some (.int (nI kr)), some (.int w4), some (.int w5), some (.int w6), some (.int w7), w8] [] h) : ∀ f k, k + f = D.2.2.1.1 → ∀ h w7 w8, kx_Fc FdM h0 h → PVm D r td t h → SHm D t sh h → kx_X (l, g, m_Mo_part, d + 5, 0, 0, Q) 0 0 97 [some (.ref 84), some (.int (nI t)), some (.int (nI L)), some (.int (nI kr)), some (.int (nI ro)), some (.int (nI (aK (inB D r td t ro) (amt D) k))), some (.int (nI k)), w7, w8] [] h := by
  have o60 := ho.2.2.1.1
  have hn2 := hwt.1
  have ots := ho.2.1.1
  have hA9 : (aK (inB D r td t ro) (amt D) D.2.2.1.1) ≤ 999999 * D.2.2.1.1 := aK_le D.2.2.1.1 (fun c hc => (ho.2.2.1.2 c hc).2.2.2.2.2.1)
  intro f
  induction f with
  | zero =>
    intro k hk h w7 w8 hf hpv hsh
    have hk0 : k = D.2.2.1.1 := by omega
    subst hk0
    have hm := hm0.fc hf
    have hp := hp0.fd hf
    refine kx_iload (pc := 97) (kx_dd d_Mo_part 58 rfl) rfl ?_
    refine kx_aload_n (pc := 99) (kx_dd d_Mo_part 59 rfl) rfl rfl ?_
    refine kx_getI (pc := 100) fl_Mo_510 (hm.k 0 rfl) rfl (kx_dd d_Mo_part 60 rfl) ?_
    refine kx_icmp_ge (pc := 103) (tgt := 140) (kx_dd d_Mo_part 61 rfl) rfl (fun c103 => ?_) (fun c103 => ?_)
    · refine kx_iconst (pc := 140) (v := 0) (kx_dd d_Mo_part 79 rfl) rfl ?_
      refine kx_istore_e (pc := 141) (lv' := [_, _, _, _, _, _, _, _, _]) (kx_dd d_Mo_part 80 rfl) (Nat.le_of_ble_eq_true rfl) rfl ?_
      refine kx_iconst (pc := 143) (v := 0) (kx_dd d_Mo_part 81 rfl) rfl ?_
      refine kx_istore_e (pc := 144) (lv' := [_, _, _, _, _, _, _, _, _]) (kx_dd d_Mo_part 82 rfl) (Nat.le_of_ble_eq_true rfl) rfl ?_
      have k1 := y_p2 hm0 nw T hwt D ho hp0 r td t ht ro hro kr sh L hL Q kont D.2.2.1.1 0 (by omega) h w8 hf hpv (fun i hi ht hik => absurd hik (Nat.not_lt_zero i)) (fun i hi ht _ => hsh i hi ht)
      rw [show (if (aK (inB D r td t ro) (amt D) D.2.2.1.1) ≤ L then aK (inB D r td t ro) (amt D) 0 else qK (inB D r td t ro) (amt D) L (aK (inB D r td t ro) (amt D) D.2.2.1.1) 0) = 0 by split <;> rfl] at k1
      exact k1
    · exact absurd (by rw [hp.2.2.1.1]; exact Int32.le_refl _) c103
  | succ f ih =>
    intro k hk h w7 w8 hf hpv hsh
    have hm := hm0.fc hf
    have hp := hp0.fd hf
    have hcc := hp.2.2.1.2 k (by omega)
    have occ := ho.2.2.1.2 k (by omega)
    have e2 : h.1 124 k = nI (cN D.2.2.1 k 2) := (hcc.1 2 (by decide) (by decide) (by decide)).trans (occ.1 2 (by decide) (by decide) (by decide) (by decide))
    have e3 : h.1 125 k = nI (cN D.2.2.1 k 3) := (hcc.1 3 (by decide) (by decide) (by decide)).trans (occ.1 3 (by decide) (by decide) (by decide) (by decide))
    have e4 : h.1 126 k = nI (cN D.2.2.1 k 4) := (hcc.1 4 (by decide) (by decide) (by decide)).trans (occ.1 4 (by decide) (by decide) (by decide) (by decide))
    obtain ⟨-, -, -, q2, q3, q4, -⟩ := occ
    have ots := ho.2.1.1
    have hak : aK (inB D r td t ro) (amt D) (k + 1) = if inB D r td t ro k then aK (inB D r td t ro) (amt D) k + amt D k else aK (inB D r td t ro) (amt D) k := rfl
    refine kx_iload (pc := 97) (kx_dd d_Mo_part 58 rfl) rfl ?_
    refine kx_aload_n (pc := 99) (kx_dd d_Mo_part 59 rfl) rfl rfl ?_
    refine kx_getI (pc := 100) fl_Mo_510 (hm.k 0 rfl) rfl (kx_dd d_Mo_part 60 rfl) ?_
    refine kx_icmp_ge (pc := 103) (tgt := 140) (kx_dd d_Mo_part 61 rfl) rfl (fun c103 => ?_) (fun c103 => ?_)
    · exact absurd c103 (by rw [hp.2.2.1.1]; exact nI_ge (by omega) (by omega))
    · refine kx_iload (pc := 106) (kx_dd d_Mo_part 62 rfl) rfl ?_
      refine kx_aload_n (pc := 108) (kx_dd d_Mo_part 63 rfl) rfl rfl ?_
      refine kx_iload (pc := 109) (kx_dd d_Mo_part 64 rfl) rfl ?_
      refine kx_iload_n (pc := 111) (kx_dd d_Mo_part 65 rfl) rfl rfl ?_
      refine kx_iload (pc := 112) (kx_dd d_Mo_part 66 rfl) rfl ?_
      refine kx_invV (pc := 114) (a := 84) (as := [_, _, _]) (kx_dd d_Mo_part 67 rfl) ⟨lk_Mo_559, wi_Mo_isIn, we_Mo_isIn⟩ w_Mo_isIn (hm.k 0 rfl) rfl rfl rfl rfl (Nat.le_of_ble_eq_true rfl) (y_isIn (d := d + 4) hm nw T D ho hp r td t ro (by omega) hro hpv k (by omega)) (Nat.le_refl _) ⟨Nat.le_refl _, Nat.le_refl _⟩ (fun v h' hq => ?_)
      obtain ⟨rfl, he⟩ := hq
      rw [he]
      clear he
      refine kx_if_eq (pc := 117) (tgt := 130) (kx_dd d_Mo_part 68 rfl) rfl (fun c117 => ?_) (fun c117 => ?_)
      · refine kx_iconst (pc := 130) (v := 0) (kx_dd d_Mo_part 74 rfl) rfl ?_
        refine kx_iadd (pc := 131) (kx_dd d_Mo_part 75 rfl) ?_
        refine kx_istore_e (pc := 132) (lv' := [_, _, _, _, _, _, _, _, _]) (kx_dd d_Mo_part 76 rfl) (Nat.le_of_ble_eq_true rfl) rfl ?_
        refine kx_iinc_e (pc := 134) (v := nI (k + 1)) (lv' := [_, _, _, _, _, _, _, _, _]) (kx_dd d_Mo_part 77 rfl) rfl (Nat.le_of_ble_eq_true rfl) (nI_1 k) rfl ?_
        refine kx_goto (pc := 137) (tgt := 97) (kx_dd d_Mo_part 78 rfl) rfl ?_
        rw [bP_0] at c117
        rw [if_neg c117] at hak
        have ih1 := ih (k + 1) (by omega) h w7 w8 hf hpv hsh
        rw [hak] at ih1
        rw [show nI (aK (inB D r td t ro) (amt D) k) + 0 = nI (aK (inB D r td t ro) (amt D) k) from nI_add _ 0]
        exact ih1
      · refine kx_aload_n (pc := 120) (kx_dd d_Mo_part 69 rfl) rfl rfl ?_
        refine kx_getR (pc := 121) (b := 126) fl_Mo_336 (hm.k 0 rfl) rfl (hm.r 41 rfl) (kx_dd d_Mo_part 70 rfl) ?_
        refine kx_iload (pc := 124) (kx_dd d_Mo_part 71 rfl) rfl ?_
        refine kx_ialdn (pc := 126) k (hm.t 42 rfl) rfl (by omega) (by decide) (kx_dd d_Mo_part 72 rfl) ?_
        refine kx_goto (pc := 127) (tgt := 131) (kx_dd d_Mo_part 73 rfl) rfl ?_
        refine kx_iadd (pc := 131) (kx_dd d_Mo_part 75 rfl) ?_
        refine kx_istore_e (pc := 132) (lv' := [_, _, _, _, _, _, _, _, _]) (kx_dd d_Mo_part 76 rfl) (Nat.le_of_ble_eq_true rfl) rfl ?_
        refine kx_iinc_e (pc := 134) (v := nI (k + 1)) (lv' := [_, _, _, _, _, _, _, _, _]) (kx_dd d_Mo_part 77 rfl) rfl (Nat.le_of_ble_eq_true rfl) (nI_1 k) rfl ?_
        refine kx_goto (pc := 137) (tgt := 97) (kx_dd d_Mo_part 78 rfl) rfl ?_
        rw [bP_0, Classical.not_not] at c117
        rw [if_pos c117] at hak
        have ih1 := ih (k + 1) (by omega) h w7 w8 hf hpv hsh
        rw [hak] at ih1
        rw [e4, nI_add]
        exact ih1
