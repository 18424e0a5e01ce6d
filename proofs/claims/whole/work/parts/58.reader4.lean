/-! the class: RulesReader, readBody, readRules -/
theorem numF_ge {b : Nat → Int32} {n i lo hi : Nat} {q : Nat × Nat} (hi0 : i ≤ n) (h : numF b n i lo hi = .inr q) : (i ≤ q.2 ∧ q.2 ≤ n) ∧ lo ≤ q.1 ∧ q.1 ≤ hi ∧ q.1 < 10000 := by
  have := tE_n (b := b) hi0
  unfold numF at h
  split at h
  next hk =>
    have hv := tV_lt hi0 hk
    split at h
    next z => cases h; exact ⟨⟨this.2, this.1⟩, z.1, z.2, hv⟩
    · cases h
  · cases h
theorem setF2_ge {b : Nat → Int32} {n i s lo hi : Nat} {r : RU} {q : RU × Nat} (hi0 : i ≤ n) (h : setF2 b n i r s lo hi = .inr q) : i ≤ q.2 ∧ q.2 ≤ n := by
  unfold setF2 at h
  cases hN : numF b n i lo hi with
  | inl f => rw [hN] at h; cases h
  | inr z => rw [hN] at h; cases h; exact (numF_ge hi0 hN).1
theorem chcF_ge {b : Nat → Int32} {n i s : Nat} {nm : List Nat} {r : RU} {q : RU × Nat} (hi0 : i ≤ n) (h : chcF b n i r s nm = .inr q) : i ≤ q.2 ∧ q.2 ≤ n := by
  have := tE_n (b := b) hi0
  unfold chcF at h
  cases hN : chO b n i nm with
  | none => rw [hN] at h; cases h
  | some z => rw [hN] at h; cases h; exact ⟨this.2, this.1⟩
theorem dayF_ge {b : Nat → Int32} {n i : Nat} {r : RU} {q : RU × Nat} (hi0 : i ≤ n) (h : dayF b n i r = .inr q) : i ≤ q.2 ∧ q.2 ≤ n := by
  unfold dayF at h
  cases hN : numF b n i 0 1999 with
  | inl f => rw [hN] at h; cases h
  | inr z =>
    rw [hN] at h
    have h1 := (numF_ge hi0 hN).1
    have h2 := setF2_ge h1.2 h
    omega
theorem rteF_ge {b : Nat → Int32} {n i : Nat} {r : RU} {q : RU × Nat} (hi0 : i ≤ n) (h : rteF b n i r = .inr q) : i ≤ q.2 ∧ q.2 ≤ n := by
  unfold rteF at h
  cases hN : numF b n i 0 99 with
  | inl f => rw [hN] at h; cases h
  | inr z =>
    rw [hN] at h
    have h1 := (numF_ge hi0 hN).1
    have h2 := chcF_ge h1.2 h
    omega
theorem kdF_ge {b : Nat → Int32} {n i : Nat} {r : RU} {q : Nat × RU × Nat} (hi0 : i ≤ n) (h : kdF b n i r = .inr q) : i ≤ q.2.2 ∧ q.2.2 ≤ n := by
  have := tE_n (b := b) hi0
  unfold kdF at h
  split at h
  · split at h
    · cases h; exact ⟨this.2, this.1⟩
    · split at h
      · cases h
      · cases h; exact ⟨this.2, this.1⟩
  · cases h
theorem wgF_ge {b : Nat → Int32} {n i : Nat} {r : RU} {q : RU × Nat} (hi0 : i ≤ n) (h : wgF b n i r = .inr q) : i ≤ q.2 ∧ q.2 ≤ n := by
  unfold wgF at h
  split at h
  · cases h
  · cases hK : kdF b n i r with
    | inl f => rw [hK] at h; cases h
    | inr z =>
      rw [hK] at h
      have h1 := kdF_ge hi0 hK
      simp only at h
      cases hN : numF b n z.2.2 1 99 with
      | inl f => rw [hN] at h; cases h
      | inr y =>
        rw [hN] at h
        have h2 := (numF_ge h1.2 hN).1
        cases h
        exact ⟨by show i ≤ y.2; omega, h2.2⟩
theorem neeF_ge {b : Nat → Int32} {n i : Nat} {r : RU} {q : RU × Nat} (hi0 : i ≤ n) (h : neeF b n i r = .inr q) : i ≤ q.2 ∧ q.2 ≤ n := by
  have h0 := tE_n (b := b) hi0
  unfold neeF at h
  split at h
  · split at h
    · cases hN : numF b n (tE b n i) 0 999 with
      | inl f => rw [hN] at h; cases h
      | inr y =>
        rw [hN] at h
        have h2 := (numF_ge h0.1 hN).1
        cases h
        exact ⟨by show i ≤ y.2; omega, h2.2⟩
    · cases h
  · cases h
theorem musF_ge {b : Nat → Int32} {n i : Nat} {r : RU} {q : RU × Nat} (hi0 : i ≤ n) (h : musF b n i r = .inr q) : i ≤ q.2 ∧ q.2 ≤ n := by
  have h0 := tE_n (b := b) hi0
  unfold musF at h
  split at h
  · cases hK : kdF b n (tE b n i) r with
    | inl f => rw [hK] at h; cases h
    | inr z =>
      rw [hK] at h
      have h1 := kdF_ge h0.1 hK
      cases h
      exact ⟨by show i ≤ z.2.2; omega, h1.2⟩
  · cases h
theorem eitF_ge {b : Nat → Int32} {n i : Nat} {r : RU} {q : RU × Nat} (hi0 : i ≤ n) (h : eitF b n i r = .inr q) : i ≤ q.2 ∧ q.2 ≤ n := by
  have h0 := tE_n (b := b) hi0
  unfold eitF at h
  split at h
  · cases hK : kdF b n (tE b n i) r with
    | inl f => rw [hK] at h; cases h
    | inr z =>
      rw [hK] at h
      have h1 := kdF_ge h0.1 hK
      simp only at h
      cases hK2 : kdF b n z.2.2 z.2.1 with
      | inl f => rw [hK2] at h; cases h
      | inr y =>
        rw [hK2] at h
        have h2 := kdF_ge h1.2 hK2
        cases h
        exact ⟨by show i ≤ y.2.2; omega, h2.2⟩
  · cases h
theorem ordK_ge {b : Nat → Int32} {n : Nat} : ∀ f i L q, i ≤ n → ordK b n f i L = .inr q → (i ≤ q.2 ∧ q.2 ≤ n) ∧ ((∀ x ∈ L, x < 4) → ∀ x ∈ q.1, x < 4)
  | 0, i, L, q, _, h => by cases h
  | f + 1, i, L, q, hi0, h => by
    have h0 := tE_n (b := b) hi0
    unfold ordK at h
    split at h
    · cases h; exact ⟨⟨h0.2, h0.1⟩, fun z => z⟩
    · cases hN : chO b n i nm4 with
      | none => rw [hN] at h; cases h
      | some z =>
        rw [hN] at h
        simp only at h
        split at h
        · cases h
        · have h1 := ordK_ge f _ _ q h0.1 h
          refine ⟨by omega, fun hL => h1.2 (fun x hx => ?_)⟩
          rcases List.mem_append.mp hx with y | y
          · exact hL x y
          · rw [List.mem_singleton.mp y]; exact (chO_lt hN).2
theorem ordF2_ge {b : Nat → Int32} {n i : Nat} {r : RU} {q : RU × Nat} (hi0 : i ≤ n) (h : ordF2 b n i r = .inr q) : i ≤ q.2 ∧ q.2 ≤ n := by
  unfold ordF2 at h
  cases hN : ordK b n 5 i [] with
  | inl f => rw [hN] at h; cases h
  | inr z => rw [hN] at h; cases h; exact (ordK_ge _ _ _ _ hi0 hN).1
theorem bodF_ge {c : Nat} {b : Nat → Int32} {n i : Nat} {r : RU} {q : RU × Nat} (hi0 : i ≤ n) (h : bodF c b n i r = .inr q) : i ≤ q.2 ∧ q.2 ≤ n := by
  unfold bodF at h
  by_cases e0 : c = 0
  · rw [if_pos e0] at h; exact setF2_ge hi0 h
  rw [if_neg e0] at h
  by_cases e1 : c = 1
  · rw [if_pos e1] at h; exact dayF_ge hi0 h
  rw [if_neg e1] at h
  by_cases e2 : c = 2
  · rw [if_pos e2] at h; exact chcF_ge hi0 h
  rw [if_neg e2] at h
  by_cases e3 : c = 3
  · rw [if_pos e3] at h; exact rteF_ge hi0 h
  rw [if_neg e3] at h
  by_cases e4 : c = 4
  · rw [if_pos e4] at h; exact chcF_ge hi0 h
  rw [if_neg e4] at h
  by_cases e5 : c = 5
  · rw [if_pos e5] at h; exact setF2_ge hi0 h
  rw [if_neg e5] at h
  by_cases e6 : c = 6
  · rw [if_pos e6] at h; exact setF2_ge hi0 h
  rw [if_neg e6] at h
  by_cases e7 : c = 7
  · rw [if_pos e7] at h; exact setF2_ge hi0 h
  rw [if_neg e7] at h
  by_cases e8 : c = 8
  · rw [if_pos e8] at h; exact setF2_ge hi0 h
  rw [if_neg e8] at h
  by_cases e9 : c = 9
  · rw [if_pos e9] at h; exact ordF2_ge hi0 h
  rw [if_neg e9] at h
  by_cases e10 : c = 10
  · rw [if_pos e10] at h; exact wgF_ge hi0 h
  rw [if_neg e10] at h
  by_cases e11 : c = 11
  · rw [if_pos e11] at h; exact neeF_ge hi0 h
  rw [if_neg e11] at h
  by_cases e12 : c = 12
  · rw [if_pos e12] at h; exact musF_ge hi0 h
  rw [if_neg e12] at h
  exact eitF_ge hi0 h
theorem x_Re_isFull {l : Launch} {g : kx_G} {d : Nat} {h : kx_Mem} (a : Nat) (b : Nat → Int32) (n i : Nat) (r : RU) (hR : RD a b n i r h) (c : Nat) (hc : c < 14) : kx_Sp l g m_Re_isFull [.ref 3, .int (nI c)] h (d) 0 0 (fun v h' => v = some (.int (bP (fulP r c))) ∧ h' = h) := by
  have hs := hR.1
  have hd := hR.2.2.2.2.1
  have ha := hR.2.2.2.2.2.1
  have hg := ha.g
  have hr := IsRu.of hs ha
  have hin := hR.2.2.1
  have ho := hR.2.2.2.2.2.2.1
  have oa := hr.2.2.2.2.2.2.2.2.2.2.2.2.2.2.2.2.2
  have o16 := ho.1
  have hrp := hR.2.2.2.2.2.2.2.1
  have o10 := ho.2.2.1
  have oM := ho.2.2.2.2.1
  have oE := ho.2.2.2.2.2.1
  refine kx_enter_e (lv := [_, _]) (by decide +kernel) (Nat.le_of_ble_eq_true rfl) rfl ?_
  refine kx_iload_n (pc := 0) (kx_dd d_Re_isFull 0 rfl) rfl rfl ?_
  by_cases e1_11 : nI c = 11
  · refine kx_tableIn (pc := 1) (tgt := 28) (kx_dd d_Re_isFull 1 rfl) (by rw [e1_11] <;> decide) (by rw [e1_11] <;> decide) (by rw [e1_11] <;> rfl) rfl ?_
    refine kx_aload_n (pc := 28) (kx_dd d_Re_isFull 2 rfl) rfl rfl ?_
    refine kx_getR (pc := 29) (b := a) fl_Re_12 (hs.k 3 rfl) rfl hd (kx_dd d_Re_isFull 3 rfl) ?_
    refine kx_getI (pc := 32) fl_Re_69 (congrArg Prod.fst hr.1) rfl (kx_dd d_Re_isFull 4 rfl) ?_
    refine kx_bipush (pc := 35) (v := 10) (kx_dd d_Re_isFull 5 rfl) rfl ?_
    refine kx_icmp_lt (pc := 37) (tgt := 44) (kx_dd d_Re_isFull 6 rfl) rfl (fun c37 => ?_) (fun c37 => ?_)
    · refine kx_iconst (pc := 44) (v := 0) (kx_dd d_Re_isFull 9 rfl) rfl ?_
      refine kx_zret (pc := 45) rfl rfl (kx_dd d_Re_isFull 10 rfl) (Nat.le_refl _) (Nat.le_refl _) ?_
      rw [hrp.2.2.2.2.1, show (10 : Int32) = nI 10 from rfl, nI_ltI (by omega) (by decide)] at c37
      rw [show (11 : Int32) = nI 11 from rfl, nI_eq (by omega) (by decide)] at e1_11
      exact ⟨by rw [bP_f (fun z => by unfold fulP at z; omega)], rfl⟩
    · refine kx_iconst (pc := 40) (v := 1) (kx_dd d_Re_isFull 7 rfl) rfl ?_
      refine kx_goto (pc := 41) (tgt := 45) (kx_dd d_Re_isFull 8 rfl) rfl ?_
      refine kx_zret (pc := 45) rfl rfl (kx_dd d_Re_isFull 10 rfl) (Nat.le_refl _) (Nat.le_refl _) ?_
      rw [hrp.2.2.2.2.1, show (10 : Int32) = nI 10 from rfl, nI_ltI (by omega) (by decide)] at c37
      rw [show (11 : Int32) = nI 11 from rfl, nI_eq (by omega) (by decide)] at e1_11
      exact ⟨by rw [bP_t (by unfold fulP; omega)], rfl⟩
  · skip
    by_cases e1_12 : nI c = 12
    · refine kx_tableIn (pc := 1) (tgt := 46) (kx_dd d_Re_isFull 1 rfl) (by rw [e1_12] <;> decide) (by rw [e1_12] <;> decide) (by rw [e1_12] <;> rfl) rfl ?_
      refine kx_aload_n (pc := 46) (kx_dd d_Re_isFull 11 rfl) rfl rfl ?_
      refine kx_getR (pc := 47) (b := a) fl_Re_12 (hs.k 3 rfl) rfl hd (kx_dd d_Re_isFull 12 rfl) ?_
      refine kx_getI (pc := 50) fl_Re_72 (congrArg Prod.fst hr.1) rfl (kx_dd d_Re_isFull 13 rfl) ?_
      refine kx_bipush (pc := 53) (v := 10) (kx_dd d_Re_isFull 14 rfl) rfl ?_
      refine kx_icmp_lt (pc := 55) (tgt := 62) (kx_dd d_Re_isFull 15 rfl) rfl (fun c55 => ?_) (fun c55 => ?_)
      · refine kx_iconst (pc := 62) (v := 0) (kx_dd d_Re_isFull 18 rfl) rfl ?_
        refine kx_zret (pc := 63) rfl rfl (kx_dd d_Re_isFull 19 rfl) (Nat.le_refl _) (Nat.le_refl _) ?_
        rw [hrp.2.2.2.2.2.2.1, show (10 : Int32) = nI 10 from rfl, nI_ltI (by omega) (by decide)] at c55
        rw [show (12 : Int32) = nI 12 from rfl, nI_eq (by omega) (by decide)] at e1_12
        exact ⟨by rw [bP_f (fun z => by unfold fulP at z; omega)], rfl⟩
      · refine kx_iconst (pc := 58) (v := 1) (kx_dd d_Re_isFull 16 rfl) rfl ?_
        refine kx_goto (pc := 59) (tgt := 63) (kx_dd d_Re_isFull 17 rfl) rfl ?_
        refine kx_zret (pc := 63) rfl rfl (kx_dd d_Re_isFull 19 rfl) (Nat.le_refl _) (Nat.le_refl _) ?_
        rw [hrp.2.2.2.2.2.2.1, show (10 : Int32) = nI 10 from rfl, nI_ltI (by omega) (by decide)] at c55
        rw [show (12 : Int32) = nI 12 from rfl, nI_eq (by omega) (by decide)] at e1_12
        exact ⟨by rw [bP_t (by unfold fulP; omega)], rfl⟩
    · skip
      by_cases e1_13 : nI c = 13
      · refine kx_tableIn (pc := 1) (tgt := 64) (kx_dd d_Re_isFull 1 rfl) (by rw [e1_13] <;> decide) (by rw [e1_13] <;> decide) (by rw [e1_13] <;> rfl) rfl ?_
        refine kx_aload_n (pc := 64) (kx_dd d_Re_isFull 20 rfl) rfl rfl ?_
        refine kx_getR (pc := 65) (b := a) fl_Re_12 (hs.k 3 rfl) rfl hd (kx_dd d_Re_isFull 21 rfl) ?_
        refine kx_getI (pc := 68) fl_Re_75 (congrArg Prod.fst hr.1) rfl (kx_dd d_Re_isFull 22 rfl) ?_
        refine kx_bipush (pc := 71) (v := 10) (kx_dd d_Re_isFull 23 rfl) rfl ?_
        refine kx_icmp_lt (pc := 73) (tgt := 80) (kx_dd d_Re_isFull 24 rfl) rfl (fun c73 => ?_) (fun c73 => ?_)
        · refine kx_iconst (pc := 80) (v := 0) (kx_dd d_Re_isFull 27 rfl) rfl ?_
          refine kx_zret (pc := 81) rfl rfl (kx_dd d_Re_isFull 28 rfl) (Nat.le_refl _) (Nat.le_refl _) ?_
          rw [hrp.2.2.2.2.2.2.2.1, show (10 : Int32) = nI 10 from rfl, nI_ltI (by omega) (by decide)] at c73
          rw [show (13 : Int32) = nI 13 from rfl, nI_eq (by omega) (by decide)] at e1_13
          exact ⟨by rw [bP_f (fun z => by unfold fulP at z; omega)], rfl⟩
        · refine kx_iconst (pc := 76) (v := 1) (kx_dd d_Re_isFull 25 rfl) rfl ?_
          refine kx_goto (pc := 77) (tgt := 81) (kx_dd d_Re_isFull 26 rfl) rfl ?_
          refine kx_zret (pc := 81) rfl rfl (kx_dd d_Re_isFull 28 rfl) (Nat.le_refl _) (Nat.le_refl _) ?_
          rw [hrp.2.2.2.2.2.2.2.1, show (10 : Int32) = nI 10 from rfl, nI_ltI (by omega) (by decide)] at c73
          rw [show (13 : Int32) = nI 13 from rfl, nI_eq (by omega) (by decide)] at e1_13
          exact ⟨by rw [bP_t (by unfold fulP; omega)], rfl⟩
      · skip
        refine kx_tableOut (pc := 1) (tgt := 82) (kx_dd d_Re_isFull 1 rfl) (by have y0 := lv_neT (a := 11) e1_11 (by decide); have y1 := lv_neT (a := 12) e1_12 (by decide); have y2 := lv_neT (a := 13) e1_13 (by decide); omega) rfl ?_
        refine kx_iconst (pc := 82) (v := 0) (kx_dd d_Re_isFull 29 rfl) rfl ?_
        refine kx_zret (pc := 83) rfl rfl (kx_dd d_Re_isFull 30 rfl) (Nat.le_refl _) (Nat.le_refl _) ?_
        exact ⟨by rw [bP_f (fun z => by unfold fulP at z; rcases z with z | z | z; exact e1_11 (by rw [z.1]; rfl); exact e1_12 (by rw [z.1]; rfl); exact e1_13 (by rw [z.1]; rfl))], rfl⟩
abbrev kx_Fe (a : Nat) (h h' : kx_Mem) : Prop := kx_Fg (fun x j => FrI a x j ∨ (x = 3 ∧ j = 2)) (FrL a) h h'
theorem kx_Fg.e {a : Nat} {h h' : kx_Mem} (hf : kx_Fd a h h') : kx_Fe a h h' := hf.mono (fun x j z => Or.inl z) (fun x j z => z)
theorem bit_set {td c : Nat} : td ||| 2 ^ c < 2 ^ 31 ∨ True := Or.inr trivial
theorem RUc.fx9 {r : RU} {a : Nat} {P : Nat → Nat → Prop} {h h' : kx_Mem} (ha : isRuA a) (hp : RUc r a h) (hf : kx_Fc P h h') (hP : ∀ b j, 4 ≤ b → ¬ P b j) : RUc r a h' := by
  have e : ∀ i, i ≤ 8 → h'.1 (a + i) = h.1 (a + i) := fun i hi => by
    funext j
    exact hf.2 _ j (hP _ j (by unfold isRuA at ha; omega))
  have e0 : h'.1 a = h.1 a := e 0 (by decide)
  unfold RUc
  rw [e0, e 1 (by decide), e 2 (by decide), e 4 (by decide), e 6 (by decide), e 8 (by decide), hf.1]
  exact hp
theorem x_Re_begins {l : Launch} {g : kx_G} {d : Nat} {h : kx_Mem} (a : Nat) (b : Nat → Int32) (n j : Nat) (r : RU) (hR : RD a b n j r h) (td : Nat) (htd : td < 2 ^ 14) (htd2 : h.1 3 2 = nI td) (P9 : Nat) (hpl : h.1 1 4 = nI P9) (c : Nat) (hc : c < 14) : kx_Sp l g m_Re_begins [.ref 3, .int (nI c)] h (d + 3) 0 0 (fun v h' => kx_Fe a h h' ∧ ((v = some (.int 0) ∧ (((c ≤ 9 ∧ bitN td c = 1) ∧ FaQ (3, P9) h') ∨ (¬ (c ≤ 9 ∧ bitN td c = 1) ∧ fulP r c ∧ FaQ (4, P9) h'))) ∨ (v = some (.int 1) ∧ ¬ (c ≤ 9 ∧ bitN td c = 1) ∧ ¬ fulP r c ∧ h'.1 3 2 = nI (td ||| 2 ^ c) ∧ RD a b n j r h'))) := by
  have hs := hR.1
  have hd := hR.2.2.2.2.1
  have ha := hR.2.2.2.2.2.1
  have hg := ha.g
  have hr := IsRu.of hs ha
  have hin := hR.2.2.1
  have ho := hR.2.2.2.2.2.2.1
  have oa := hr.2.2.2.2.2.2.2.2.2.2.2.2.2.2.2.2.2
  have o16 := ho.1
  refine kx_enter_e (lv := [_, _]) (by decide +kernel) (Nat.le_of_ble_eq_true rfl) rfl ?_
  refine kx_iload_n (pc := 0) (kx_dd d_Re_begins 0 rfl) rfl rfl ?_
  refine kx_iconst (pc := 1) (v := -1) (kx_dd d_Re_begins 1 rfl) rfl ?_
  refine kx_icmp_ne (pc := 2) (tgt := 11) (kx_dd d_Re_begins 2 rfl) rfl (fun c2 => ?_) (fun c2 => ?_)
  · refine kx_iload_n (pc := 11) (kx_dd d_Re_begins 7 rfl) rfl rfl ?_
    refine kx_bipush (pc := 12) (v := 9) (kx_dd d_Re_begins 8 rfl) rfl ?_
    refine kx_icmp_gt (pc := 14) (tgt := 34) (kx_dd d_Re_begins 9 rfl) rfl (fun c14 => ?_) (fun c14 => ?_)
    · refine kx_aload_n (pc := 34) (kx_dd d_Re_begins 21 rfl) rfl rfl ?_
      refine kx_iload_n (pc := 35) (kx_dd d_Re_begins 22 rfl) rfl rfl ?_
      refine kx_invV (pc := 36) (a := 3) (as := [_]) (kx_dd d_Re_begins 23 rfl) ⟨lk_Re_66, wi_Re_isFull, we_Re_isFull⟩ w_Re_isFull (hs.k 3 rfl) rfl rfl rfl rfl (Nat.le_of_ble_eq_true rfl) (x_Re_isFull (d := d + 2) a b n j r hR c hc) (Nat.le_refl _) ⟨Nat.le_refl _, Nat.le_refl _⟩ (fun v h' hq => ?_)
      obtain ⟨rfl, he⟩ := hq
      rw [he]
      clear he
      refine kx_if_eq (pc := 39) (tgt := 48) (kx_dd d_Re_begins 24 rfl) rfl (fun c39 => ?_) (fun c39 => ?_)
      · refine kx_aload_n (pc := 48) (kx_dd d_Re_begins 29 rfl) rfl rfl ?_
        refine kx_dup (pc := 49) (kx_dd d_Re_begins 30 rfl) rfl ?_
        refine kx_getI (pc := 50) fl_Re_29 (hs.k 3 rfl) rfl (kx_dd d_Re_begins 31 rfl) ?_
        refine kx_iconst (pc := 53) (v := 1) (kx_dd d_Re_begins 32 rfl) rfl ?_
        refine kx_iload_n (pc := 54) (kx_dd d_Re_begins 33 rfl) rfl rfl ?_
        refine kx_ishl (pc := 55) (kx_dd d_Re_begins 34 rfl) ?_
        refine kx_ior (pc := 56) (kx_dd d_Re_begins 35 rfl) ?_
        refine kx_putI (pc := 57) fl_Re_29 (hs.k 3 rfl) (by decide) rfl rfl (kx_dd d_Re_begins 36 rfl) ?_
        refine kx_iconst (pc := 60) (v := 1) (kx_dd d_Re_begins 37 rfl) rfl ?_
        refine kx_zret (pc := 61) rfl rfl (kx_dd d_Re_begins 38 rfl) (Nat.le_refl _) (Nat.le_refl _) ?_
        have e25 : ¬ (c ≤ 9 ∧ bitN td c = 1) := by
          rintro ⟨z1, z2⟩
          rw [show (9 : Int32) = nI 9 from rfl, nI_ltI (by decide) (by omega)] at c14
          omega
        rw [bP_0] at c39
        refine ⟨kx_Fg.setI (Or.inr ⟨rfl, rfl⟩), Or.inr ⟨rfl, e25, c39, ?_, ?_⟩⟩
        · rw [setI_at, htd2, nI_pow (by omega), nI_or]
        · exact ⟨hR.1, ⟨hR.2.1.1, hR.2.1.2⟩, hR.2.2.1, hR.2.2.2.1, hR.2.2.2.2.1, ha, ho, (by
            have hf : kx_Fc (fun b j => b = 3) h (kx_setI h 3 2 (h.1 3 2 ||| 1 <<< (nI c &&& 31))) := kx_Fc.set rfl
            exact hR.2.2.2.2.2.2.2.1.fx9 ha hf (fun b j hb z => by omega)), (by rw [setI_ne (Or.inr (by decide))]; exact hR.2.2.2.2.2.2.2.2.1), (by rw [setI_ne (Or.inr (by decide))]; exact hR.2.2.2.2.2.2.2.2.2)⟩
      · refine kx_aload_n (pc := 42) (kx_dd d_Re_begins 25 rfl) rfl rfl ?_
        refine kx_iconst (pc := 43) (v := 4) (kx_dd d_Re_begins 26 rfl) rfl ?_
        refine kx_invV (pc := 44) (a := 3) (as := [_]) (kx_dd d_Re_begins 27 rfl) ⟨lk_Re_63, wi_Re_refuse, we_Re_refuse⟩ w_Re_refuse (hs.k 3 rfl) rfl rfl rfl rfl (Nat.le_of_ble_eq_true rfl) (x_Re_refuse (d := d + 2) hs (nI 4)) (Nat.le_refl _) ⟨Nat.le_refl _, Nat.le_refl _⟩ (fun v h' hq => ?_)
        revert h'
        intro h9 hq
        obtain ⟨rfl, rfl⟩ := hq
        refine kx_zret (pc := 47) rfl rfl (kx_dd d_Re_begins 28 rfl) (Nat.le_refl _) (Nat.le_refl _) ?_
        have e25 : ¬ (c ≤ 9 ∧ bitN td c = 1) := by
          rintro ⟨z1, z2⟩
          rw [show (9 : Int32) = nI 9 from rfl, nI_ltI (by decide) (by omega)] at c14
          omega
        rw [bP_0, Classical.not_not] at c39
        exact ⟨(RD.fault kx_Fg.rf).e, Or.inl ⟨rfl, Or.inr ⟨e25, c39, FaQ.of (k := 4) hpl⟩⟩⟩
    · refine kx_aload_n (pc := 17) (kx_dd d_Re_begins 10 rfl) rfl rfl ?_
      refine kx_getI (pc := 18) fl_Re_29 (hs.k 3 rfl) rfl (kx_dd d_Re_begins 11 rfl) ?_
      refine kx_iload_n (pc := 21) (kx_dd d_Re_begins 12 rfl) rfl rfl ?_
      refine kx_ishr (pc := 22) (kx_dd d_Re_begins 13 rfl) ?_
      refine kx_iconst (pc := 23) (v := 1) (kx_dd d_Re_begins 14 rfl) rfl ?_
      refine kx_iand (pc := 24) (kx_dd d_Re_begins 15 rfl) ?_
      refine kx_if_eq (pc := 25) (tgt := 34) (kx_dd d_Re_begins 16 rfl) rfl (fun c25 => ?_) (fun c25 => ?_)
      · refine kx_aload_n (pc := 34) (kx_dd d_Re_begins 21 rfl) rfl rfl ?_
        refine kx_iload_n (pc := 35) (kx_dd d_Re_begins 22 rfl) rfl rfl ?_
        refine kx_invV (pc := 36) (a := 3) (as := [_]) (kx_dd d_Re_begins 23 rfl) ⟨lk_Re_66, wi_Re_isFull, we_Re_isFull⟩ w_Re_isFull (hs.k 3 rfl) rfl rfl rfl rfl (Nat.le_of_ble_eq_true rfl) (x_Re_isFull (d := d + 2) a b n j r hR c hc) (Nat.le_refl _) ⟨Nat.le_refl _, Nat.le_refl _⟩ (fun v h' hq => ?_)
        obtain ⟨rfl, he⟩ := hq
        rw [he]
        clear he
        refine kx_if_eq (pc := 39) (tgt := 48) (kx_dd d_Re_begins 24 rfl) rfl (fun c39 => ?_) (fun c39 => ?_)
        · refine kx_aload_n (pc := 48) (kx_dd d_Re_begins 29 rfl) rfl rfl ?_
          refine kx_dup (pc := 49) (kx_dd d_Re_begins 30 rfl) rfl ?_
          refine kx_getI (pc := 50) fl_Re_29 (hs.k 3 rfl) rfl (kx_dd d_Re_begins 31 rfl) ?_
          refine kx_iconst (pc := 53) (v := 1) (kx_dd d_Re_begins 32 rfl) rfl ?_
          refine kx_iload_n (pc := 54) (kx_dd d_Re_begins 33 rfl) rfl rfl ?_
          refine kx_ishl (pc := 55) (kx_dd d_Re_begins 34 rfl) ?_
          refine kx_ior (pc := 56) (kx_dd d_Re_begins 35 rfl) ?_
          refine kx_putI (pc := 57) fl_Re_29 (hs.k 3 rfl) (by decide) rfl rfl (kx_dd d_Re_begins 36 rfl) ?_
          refine kx_iconst (pc := 60) (v := 1) (kx_dd d_Re_begins 37 rfl) rfl ?_
          refine kx_zret (pc := 61) rfl rfl (kx_dd d_Re_begins 38 rfl) (Nat.le_refl _) (Nat.le_refl _) ?_
          have e25 : ¬ (c ≤ 9 ∧ bitN td c = 1) := by
            rintro ⟨z1, z2⟩
            rw [show (9 : Int32) = nI 9 from rfl, nI_ltI (by decide) (by omega)] at c14
            rw [htd2, nI_bit (by omega) (by omega), z2] at c25
            exact absurd c25 (by decide)
          rw [bP_0] at c39
          refine ⟨kx_Fg.setI (Or.inr ⟨rfl, rfl⟩), Or.inr ⟨rfl, e25, c39, ?_, ?_⟩⟩
          · rw [setI_at, htd2, nI_pow (by omega), nI_or]
          · exact ⟨hR.1, ⟨hR.2.1.1, hR.2.1.2⟩, hR.2.2.1, hR.2.2.2.1, hR.2.2.2.2.1, ha, ho, (by
              have hf : kx_Fc (fun b j => b = 3) h (kx_setI h 3 2 (h.1 3 2 ||| 1 <<< (nI c &&& 31))) := kx_Fc.set rfl
              exact hR.2.2.2.2.2.2.2.1.fx9 ha hf (fun b j hb z => by omega)), (by rw [setI_ne (Or.inr (by decide))]; exact hR.2.2.2.2.2.2.2.2.1), (by rw [setI_ne (Or.inr (by decide))]; exact hR.2.2.2.2.2.2.2.2.2)⟩
        · refine kx_aload_n (pc := 42) (kx_dd d_Re_begins 25 rfl) rfl rfl ?_
          refine kx_iconst (pc := 43) (v := 4) (kx_dd d_Re_begins 26 rfl) rfl ?_
          refine kx_invV (pc := 44) (a := 3) (as := [_]) (kx_dd d_Re_begins 27 rfl) ⟨lk_Re_63, wi_Re_refuse, we_Re_refuse⟩ w_Re_refuse (hs.k 3 rfl) rfl rfl rfl rfl (Nat.le_of_ble_eq_true rfl) (x_Re_refuse (d := d + 2) hs (nI 4)) (Nat.le_refl _) ⟨Nat.le_refl _, Nat.le_refl _⟩ (fun v h' hq => ?_)
          revert h'
          intro h9 hq
          obtain ⟨rfl, rfl⟩ := hq
          refine kx_zret (pc := 47) rfl rfl (kx_dd d_Re_begins 28 rfl) (Nat.le_refl _) (Nat.le_refl _) ?_
          have e25 : ¬ (c ≤ 9 ∧ bitN td c = 1) := by
            rintro ⟨z1, z2⟩
            rw [show (9 : Int32) = nI 9 from rfl, nI_ltI (by decide) (by omega)] at c14
            rw [htd2, nI_bit (by omega) (by omega), z2] at c25
            exact absurd c25 (by decide)
          rw [bP_0, Classical.not_not] at c39
          exact ⟨(RD.fault kx_Fg.rf).e, Or.inl ⟨rfl, Or.inr ⟨e25, c39, FaQ.of (k := 4) hpl⟩⟩⟩
      · refine kx_aload_n (pc := 28) (kx_dd d_Re_begins 17 rfl) rfl rfl ?_
        refine kx_iconst (pc := 29) (v := 3) (kx_dd d_Re_begins 18 rfl) rfl ?_
        refine kx_invV (pc := 30) (a := 3) (as := [_]) (kx_dd d_Re_begins 19 rfl) ⟨lk_Re_63, wi_Re_refuse, we_Re_refuse⟩ w_Re_refuse (hs.k 3 rfl) rfl rfl rfl rfl (Nat.le_of_ble_eq_true rfl) (x_Re_refuse (d := d + 2) hs (nI 3)) (Nat.le_refl _) ⟨Nat.le_refl _, Nat.le_refl _⟩ (fun v h' hq => ?_)
        revert h'
        intro h9 hq
        obtain ⟨rfl, rfl⟩ := hq
        refine kx_zret (pc := 33) rfl rfl (kx_dd d_Re_begins 20 rfl) (Nat.le_refl _) (Nat.le_refl _) ?_
        have e25 : c ≤ 9 ∧ bitN td c = 1 := by
          rw [htd2, nI_bit (by omega) (by omega), nI_z (by unfold bitN; omega)] at c25
          rw [show (9 : Int32) = nI 9 from rfl, nI_ltI (by decide) (by omega)] at c14
          have : bitN td c < 2 := by unfold bitN; omega
          omega
        exact ⟨(RD.fault kx_Fg.rf).e, Or.inl ⟨rfl, Or.inl ⟨e25, FaQ.of (k := 3) hpl⟩⟩⟩
  · exact absurd c2 (nI_m2 (by omega))
theorem x_Re_beginsN {l : Launch} {g : kx_G} {d : Nat} {h : kx_Mem} (a : Nat) (b : Nat → Int32) (n j : Nat) (r : RU) (hR : RD a b n j r h) (td : Nat) (htd : td < 2 ^ 14) (htd2 : h.1 3 2 = nI td) (P9 : Nat) (hpl : h.1 1 4 = nI P9) : kx_Sp l g m_Re_begins [.ref 3, .int (-1)] h (d + 3) 0 0 (fun v h' => kx_Fe a h h' ∧ v = some (.int 0) ∧ FaQ (1, P9) h') := by
  have hs := hR.1
  have hd := hR.2.2.2.2.1
  have ha := hR.2.2.2.2.2.1
  have hg := ha.g
  have hr := IsRu.of hs ha
  have hin := hR.2.2.1
  have ho := hR.2.2.2.2.2.2.1
  have oa := hr.2.2.2.2.2.2.2.2.2.2.2.2.2.2.2.2.2
  have o16 := ho.1
  refine kx_enter_e (lv := [_, _]) (by decide +kernel) (Nat.le_of_ble_eq_true rfl) rfl ?_
  refine kx_iload_n (pc := 0) (kx_dd d_Re_begins 0 rfl) rfl rfl ?_
  refine kx_iconst (pc := 1) (v := -1) (kx_dd d_Re_begins 1 rfl) rfl ?_
  refine kx_icmp_ne (pc := 2) (tgt := 11) (kx_dd d_Re_begins 2 rfl) rfl (fun c2 => ?_) (fun c2 => ?_)
  · exact absurd rfl c2
  · refine kx_aload_n (pc := 5) (kx_dd d_Re_begins 3 rfl) rfl rfl ?_
    refine kx_iconst (pc := 6) (v := 1) (kx_dd d_Re_begins 4 rfl) rfl ?_
    refine kx_invV (pc := 7) (a := 3) (as := [_]) (kx_dd d_Re_begins 5 rfl) ⟨lk_Re_63, wi_Re_refuse, we_Re_refuse⟩ w_Re_refuse (hs.k 3 rfl) rfl rfl rfl rfl (Nat.le_of_ble_eq_true rfl) (x_Re_refuse (d := d + 2) hs (nI 1)) (Nat.le_refl _) ⟨Nat.le_refl _, Nat.le_refl _⟩ (fun v h' hq => ?_)
    revert h'
    intro h9 hq
    obtain ⟨rfl, rfl⟩ := hq
    refine kx_zret (pc := 10) rfl rfl (kx_dd d_Re_begins 6 rfl) (Nat.le_refl _) (Nat.le_refl _) ?_
    exact ⟨(RD.fault kx_Fg.rf).e, rfl, FaQ.of (k := 1) hpl⟩
