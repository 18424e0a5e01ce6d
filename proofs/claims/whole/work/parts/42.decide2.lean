/-! decide, on both sides -/
def decF (F : Nat → Nat → Int32) (c aw su td fa du : Nat) : Nat → Nat → Int32 := fun c' j => if c' = c then (if j = 8 then 2 else if j = 9 then nI su else if j = 10 then nI aw else if j = 12 then nI td else if j = 13 then 0 else if j = 14 then 0 else if j = 15 then nI fa else if j = 16 then nI du else F c' j) else F c' j
/-- a claim decided -/
noncomputable def decD (D : DK) (r : RU) (td c su du : Nat) : DK := (D.1, D.2.1, (D.2.2.1.1, decF D.2.2.1.2.1 c (awdF D r td c su) su td (faiF D r c td) du, D.2.2.1.2.2), D.2.2.2)
theorem dec_c {F : Nat → Nat → Int32} {c aw su td fa du : Nat} : setF (setF (setF (setF (setF (setF (setF (setF F c 10 (nI aw)) c 8 2) c 9 (nI su)) c 12 (nI td)) c 13 0) c 14 0) c 15 (nI fa)) c 16 (nI du) = decF F c aw su td fa du := by
  funext c' j
  unfold decF
  simp only [setF]
  grind
theorem dec_m {F : Nat → Nat → Int32} {c aw su td fa du : Nat} : setF (setF (setF (setF (setF (setF (setF (setF F c 15 (nI fa)) c 16 (nI du)) c 8 2) c 9 (nI su)) c 10 (nI aw)) c 12 (nI td)) c 13 0) c 14 0 = decF F c aw su td fa du := by
  funext c' j
  unfold decF
  simp only [setF]
  grind
theorem DKc.apart {D : DK} {A : DA} {h : kx_Mem} (hp : DKc D A h) {c : Nat} (hc : c < D.2.2.1.1) : ∀ k, k < D.2.2.2.1 → A.2.1 k ≠ A.1 c := by
  intro k hk e
  have h1 := (hp.2.2.2.2.2 k hk).2.2.1
  have h2 := (hp.2.2.2.2.1.2 c hc).2.2.1
  rw [e, h2] at h1
  simp at h1
theorem DKc.s {D : DK} {A : DA} {h : kx_Mem} (hp : DKc D A h) {c j : Nat} (v : Int32) (hc : c < D.2.2.1.1) : DKc (setCf D c j v) A (kx_setI h (A.1 c) j v) := hp.set hc (hp.apart hc)
theorem RUc.fx {r : RU} {a : Nat} {P : Nat → Nat → Prop} {h h' : kx_Mem} (ha : isRuA a) (hp : RUc r a h) (hf : kx_Fc P h h') (hP : ∀ b j, b < 84 → ¬ P b j) : RUc r a h' := by
  have e : ∀ i, i ≤ 8 → h'.1 (a + i) = h.1 (a + i) := fun i hi => by
    funext j
    exact hf.2 _ j (hP _ j (by unfold isRuA at ha; omega))
  have e0 : h'.1 a = h.1 a := e 0 (by decide)
  unfold RUc
  rw [e0, e 1 (by decide), e 2 (by decide), e 4 (by decide), e 6 (by decide), e 8 (by decide), hf.1]
  exact hp
theorem x_Do_decide {l : Launch} {g : kx_G} {d : Nat} {h : kx_Mem} (hs : SC h) (D : DK) (A : DA) (ho : DKok D) (hp : DKc D A h) (a : Nat) (hra : isRuA a) (r : RU) (hro : RUok r) (hse : RSet r) (hrp : RUc r a h) (c : Nat) (hc : c < D.2.2.1.1) (td : Nat) (htd : td ≤ 1999) (hfi : cN D.2.2.1 c 5 ≤ td) (su : Nat) (hsu : su ≤ 999999) (h3 : cN D.2.2.1 c 8 ≠ 3) (du : Nat) (hdu : du ≤ 999999) : kx_Sp l g m_Do_decide [.ref 39, .ref (A.1 c), .int (nI su), .int (nI du), .ref a, .int (nI td)] h (d + 5) 0 0 (fun v h' => v = none ∧ DKc (decD D r td c su du) A h' ∧ kx_Fc (fun a j => a = A.1 c ∧ 8 ≤ j ∧ j ≤ 16) h h') := by
  have t4 := hse.2.2.1
  have o60 := ho.2.2.1.1
  have ha83 : a ≤ 75 := by unfold isRuA at hra; omega
  have hr := IsRu.of hs hra
  have hcc := hp.2.2.2.2.1.2 c hc
  have occ := ho.2.2.1.2 c hc
  have f2 := (hcc.2.2.2.1 2 (by decide) (by decide)).trans (occ.1 2 (by decide) (by decide) (by decide) (by decide))
  have f5 := (hcc.2.2.2.1 5 (by decide) (by decide)).trans (occ.1 5 (by decide) (by decide) (by decide) (by decide))
  obtain ⟨-, q0, q1, q2, q3, q4, q5, qd, -⟩ := occ
  have oth := (ho.2.1.2 (cN D.2.2.1 c 2) q2).1
  have ol : lostD D c ≤ cN D.2.2.1 c 5 := qd
  have s4 := (hrp.1 4 (by decide)).trans (hse.1 4 (by decide) (by decide))
  have s5 := (hrp.1 5 (by decide)).trans (hse.1 5 (by decide) (by decide))
  have s7 := hrp.1 7 (by decide)
  have hall := allF_le (D := D) (r := r) (c := c) t4 hsu htd
  have hsm := sumA_le ho.2.2.1 D.2.2.1.1 (Nat.le_refl _)
  refine kx_enter_e (lv := [_, _, _, _, _, _]) (by decide +kernel) (Nat.le_of_ble_eq_true rfl) rfl ?_
  refine kx_aload_n (pc := 0) (kx_dd d_Do_decide 0 rfl) rfl rfl ?_
  refine kx_aload_n (pc := 1) (kx_dd d_Do_decide 1 rfl) rfl rfl ?_
  refine kx_aload_n (pc := 2) (kx_dd d_Do_decide 2 rfl) rfl rfl ?_
  refine kx_iload_n (pc := 3) (kx_dd d_Do_decide 3 rfl) rfl rfl ?_
  refine kx_aload (pc := 4) (kx_dd d_Do_decide 4 rfl) rfl ?_
  refine kx_iload (pc := 6) (kx_dd d_Do_decide 5 rfl) rfl ?_
  refine kx_invV (pc := 8) (a := 39) (as := [_, _, _, _]) (kx_dd d_Do_decide 6 rfl) ⟨lk_Do_159, wi_Do_awardOf, we_Do_awardOf⟩ w_Do_awardOf (hs.k 39 rfl) rfl rfl rfl rfl (Nat.le_of_ble_eq_true rfl) (x_Do_awardOf (d := d) hs D A ho hp a hra r hro hse hrp c hc td htd hfi su hsu) (Nat.le_refl _) ⟨Nat.le_refl _, Nat.le_refl _⟩ (fun v h' hq => ?_)
  obtain ⟨rfl, he⟩ := hq
  rw [he]
  clear he
  refine kx_putI (pc := 11) fl_Do_137 (congrArg Prod.fst hcc.2.2.1) hcc.2.1 rfl rfl (kx_dd d_Do_decide 7 rfl) ?_
  have hp1 : DKc (setCf D c 10 (nI (awdF D r td c su))) A (kx_setI h (A.1 c) 10 (nI (awdF D r td c su))) := hp.s (nI (awdF D r td c su)) hc
  have ho1 : DKok (setCf D c 10 (nI (awdF D r td c su))) := ho.set (by decide) (Or.inr ⟨_, rfl, awdF_le t4 hsu htd⟩)
  refine kx_aload_n (pc := 14) (kx_dd d_Do_decide 8 rfl) rfl rfl ?_
  refine kx_iconst (pc := 15) (v := 2) (kx_dd d_Do_decide 9 rfl) rfl ?_
  refine kx_putI (pc := 16) fl_Do_117 (congrArg Prod.fst hcc.2.2.1) hcc.2.1 rfl rfl (kx_dd d_Do_decide 10 rfl) ?_
  have hp2 : DKc (setCf (setCf D c 10 (nI (awdF D r td c su))) c 8 2) A (kx_setI (kx_setI h (A.1 c) 10 (nI (awdF D r td c su))) (A.1 c) 8 2) := hp1.s 2 hc
  have ho2 : DKok (setCf (setCf D c 10 (nI (awdF D r td c su))) c 8 2) := ho1.set (by decide) (Or.inr ⟨2, rfl, by decide⟩)
  refine kx_aload_n (pc := 19) (kx_dd d_Do_decide 11 rfl) rfl rfl ?_
  refine kx_iload_n (pc := 20) (kx_dd d_Do_decide 12 rfl) rfl rfl ?_
  refine kx_putI (pc := 21) fl_Do_163 (congrArg Prod.fst hcc.2.2.1) hcc.2.1 rfl rfl (kx_dd d_Do_decide 13 rfl) ?_
  have hp3 : DKc (setCf (setCf (setCf D c 10 (nI (awdF D r td c su))) c 8 2) c 9 (nI su)) A (kx_setI (kx_setI (kx_setI h (A.1 c) 10 (nI (awdF D r td c su))) (A.1 c) 8 2) (A.1 c) 9 (nI su)) := hp2.s (nI su) hc
  have ho3 : DKok (setCf (setCf (setCf D c 10 (nI (awdF D r td c su))) c 8 2) c 9 (nI su)) := ho2.set (by decide) (Or.inr ⟨_, rfl, hsu⟩)
  refine kx_aload_n (pc := 24) (kx_dd d_Do_decide 14 rfl) rfl rfl ?_
  refine kx_iload (pc := 25) (kx_dd d_Do_decide 15 rfl) rfl ?_
  refine kx_putI (pc := 27) fl_Do_166 (congrArg Prod.fst hcc.2.2.1) hcc.2.1 rfl rfl (kx_dd d_Do_decide 16 rfl) ?_
  have hp4 : DKc (setCf (setCf (setCf (setCf D c 10 (nI (awdF D r td c su))) c 8 2) c 9 (nI su)) c 12 (nI td)) A (kx_setI (kx_setI (kx_setI (kx_setI h (A.1 c) 10 (nI (awdF D r td c su))) (A.1 c) 8 2) (A.1 c) 9 (nI su)) (A.1 c) 12 (nI td)) := hp3.s (nI td) hc
  have ho4 : DKok (setCf (setCf (setCf (setCf D c 10 (nI (awdF D r td c su))) c 8 2) c 9 (nI su)) c 12 (nI td)) := ho3.set (by decide) (Or.inl (Or.inr rfl))
  refine kx_aload_n (pc := 30) (kx_dd d_Do_decide 17 rfl) rfl rfl ?_
  refine kx_iconst (pc := 31) (v := 0) (kx_dd d_Do_decide 18 rfl) rfl ?_
  refine kx_putI (pc := 32) fl_Do_169 (congrArg Prod.fst hcc.2.2.1) hcc.2.1 rfl rfl (kx_dd d_Do_decide 19 rfl) ?_
  have hp5 : DKc (setCf (setCf (setCf (setCf (setCf D c 10 (nI (awdF D r td c su))) c 8 2) c 9 (nI su)) c 12 (nI td)) c 13 0) A (kx_setI (kx_setI (kx_setI (kx_setI (kx_setI h (A.1 c) 10 (nI (awdF D r td c su))) (A.1 c) 8 2) (A.1 c) 9 (nI su)) (A.1 c) 12 (nI td)) (A.1 c) 13 0) := hp4.s 0 hc
  have ho5 : DKok (setCf (setCf (setCf (setCf (setCf D c 10 (nI (awdF D r td c su))) c 8 2) c 9 (nI su)) c 12 (nI td)) c 13 0) := ho4.set (by decide) (Or.inr ⟨0, rfl, by decide⟩)
  refine kx_aload_n (pc := 35) (kx_dd d_Do_decide 20 rfl) rfl rfl ?_
  refine kx_iconst (pc := 36) (v := 0) (kx_dd d_Do_decide 21 rfl) rfl ?_
  refine kx_putI (pc := 37) fl_Do_172 (congrArg Prod.fst hcc.2.2.1) hcc.2.1 rfl rfl (kx_dd d_Do_decide 22 rfl) ?_
  have hp6 : DKc (setCf (setCf (setCf (setCf (setCf (setCf D c 10 (nI (awdF D r td c su))) c 8 2) c 9 (nI su)) c 12 (nI td)) c 13 0) c 14 0) A (kx_setI (kx_setI (kx_setI (kx_setI (kx_setI (kx_setI h (A.1 c) 10 (nI (awdF D r td c su))) (A.1 c) 8 2) (A.1 c) 9 (nI su)) (A.1 c) 12 (nI td)) (A.1 c) 13 0) (A.1 c) 14 0) := hp5.s 0 hc
  have ho6 : DKok (setCf (setCf (setCf (setCf (setCf (setCf D c 10 (nI (awdF D r td c su))) c 8 2) c 9 (nI su)) c 12 (nI td)) c 13 0) c 14 0) := ho5.set (by decide) (Or.inr ⟨0, rfl, by decide⟩)
  have hf6 : kx_Fc (fun a j => a = A.1 c ∧ 8 ≤ j ∧ j ≤ 16) h (kx_setI (kx_setI (kx_setI (kx_setI (kx_setI (kx_setI h (A.1 c) 10 (nI (awdF D r td c su))) (A.1 c) 8 2) (A.1 c) 9 (nI su)) (A.1 c) 12 (nI td)) (A.1 c) 13 0) (A.1 c) 14 0) := (((((kx_Fc.set ⟨rfl, by decide, by decide⟩).tr (kx_Fc.set ⟨rfl, by decide, by decide⟩)).tr (kx_Fc.set ⟨rfl, by decide, by decide⟩)).tr (kx_Fc.set ⟨rfl, by decide, by decide⟩)).tr (kx_Fc.set ⟨rfl, by decide, by decide⟩)).tr (kx_Fc.set ⟨rfl, by decide, by decide⟩)
  have hs6 := hs.fc hf6
  have hrp6 := hrp.fx hra hf6 (fun b j hb => by have := hcc.1; omega)
  have hr6 := IsRu.of hs6 hra
  refine kx_aload_n (pc := 40) (kx_dd d_Do_decide 23 rfl) rfl rfl ?_
  refine kx_aload_n (pc := 41) (kx_dd d_Do_decide 24 rfl) rfl rfl ?_
  refine kx_aload_n (pc := 42) (kx_dd d_Do_decide 25 rfl) rfl rfl ?_
  refine kx_aload (pc := 43) (kx_dd d_Do_decide 26 rfl) rfl ?_
  refine kx_iload (pc := 45) (kx_dd d_Do_decide 27 rfl) rfl ?_
  refine kx_invV (pc := 47) (a := 39) (as := [_, _, _]) (kx_dd d_Do_decide 28 rfl) ⟨lk_Do_134, wi_Do_failuresOf, we_Do_failuresOf⟩ w_Do_failuresOf (hs.k 39 rfl) rfl rfl rfl rfl (Nat.le_of_ble_eq_true rfl) (x_Do_failuresOf (d := d) hs6 (setCf (setCf (setCf (setCf (setCf (setCf D c 10 (nI (awdF D r td c su))) c 8 2) c 9 (nI su)) c 12 (nI td)) c 13 0) c 14 0) A ho6 hp6 a hr6 r hro hrp6 c hc td (by omega)) (Nat.le_refl _) ⟨Nat.le_refl _, Nat.le_refl _⟩ (fun v h' hq => ?_)
  obtain ⟨rfl, he⟩ := hq
  rw [he]
  clear he
  have efa : faiF (setCf (setCf (setCf (setCf (setCf (setCf D c 10 (nI (awdF D r td c su))) c 8 2) c 9 (nI su)) c 12 (nI td)) c 13 0) c 14 0) r c td = faiF D r c td := by
    rw [faiF_set (by decide) (fun z => absurd z (by decide)), faiF_set (by decide) (fun z => absurd z (by decide)), faiF_set (by decide) (fun z => absurd z (by decide)), faiF_set (by decide) (fun z => absurd z (by decide)), faiF_set (by decide) (fun _ => ?_), faiF_set (by decide) (fun z => absurd z (by decide))]
    rw [cN_ne (show 8 ≠ 10 by decide)]
    exact ⟨fun z => absurd z (by decide), fun z => absurd z h3⟩
  rw [efa]
  refine kx_putI (pc := 50) fl_Do_175 (congrArg Prod.fst hcc.2.2.1) hcc.2.1 rfl rfl (kx_dd d_Do_decide 29 rfl) ?_
  refine kx_aload_n (pc := 53) (kx_dd d_Do_decide 30 rfl) rfl rfl ?_
  refine kx_iload_n (pc := 54) (kx_dd d_Do_decide 31 rfl) rfl rfl ?_
  refine kx_putI (pc := 55) fl_Do_178 (congrArg Prod.fst hcc.2.2.1) hcc.2.1 rfl rfl (kx_dd d_Do_decide 32 rfl) ?_
  refine kx_vret (pc := 58) rfl (kx_dd d_Do_decide 33 rfl) (Nat.le_refl _) (Nat.le_refl _) ?_
  refine ⟨rfl, ?_, (hf6.tr (kx_Fc.set ⟨rfl, by decide, by decide⟩)).tr (kx_Fc.set ⟨rfl, by decide, by decide⟩)⟩
  have h8 := (hp6.s (j := 15) (nI (faiF D r c td)) hc).s (j := 16) (nI du) hc
  have e9 : setCf (setCf (setCf (setCf (setCf (setCf (setCf (setCf D c 10 (nI (awdF D r td c su))) c 8 2) c 9 (nI su)) c 12 (nI td)) c 13 0) c 14 0) c 15 (nI (faiF D r c td))) c 16 (nI du) = decD D r td c su du := by
    unfold decD
    rw [← dec_c]
    rfl
  rw [e9] at h8
  exact h8
theorem DKok.dec {D : DK} (ho : DKok D) {r : RU} (hse : RSet r) {td c su du : Nat} (hsu : su ≤ 999999) (htd : td ≤ 1999) (hdu : du ≤ 999999) : DKok (decD D r td c su du) := by
  have h1 := (((((((ho.set (c := c) (j := 10) (v := nI (awdF D r td c su)) (by decide) (Or.inr ⟨_, rfl, awdF_le hse.2.2.1 hsu htd⟩)).set (c := c) (j := 8) (v := 2) (by decide) (Or.inr ⟨2, rfl, by decide⟩)).set (c := c) (j := 9) (v := nI su) (by decide) (Or.inr ⟨_, rfl, hsu⟩)).set (c := c) (j := 12) (v := nI td) (by decide) (Or.inl (Or.inr rfl))).set (c := c) (j := 13) (v := 0) (by decide) (Or.inr ⟨0, rfl, by decide⟩)).set (c := c) (j := 14) (v := 0) (by decide) (Or.inr ⟨0, rfl, by decide⟩)).set (c := c) (j := 15) (v := nI (faiF D r c td)) (by decide) (Or.inr ⟨_, rfl, by have := faiF_lt (D := D) (r := r) (c := c) (kn := td); show _ ≤ 63; omega⟩)).set (c := c) (j := 16) (v := nI du) (by decide) (Or.inr ⟨_, rfl, hdu⟩)
  have e9 : setCf (setCf (setCf (setCf (setCf (setCf (setCf (setCf D c 10 (nI (awdF D r td c su))) c 8 2) c 9 (nI su)) c 12 (nI td)) c 13 0) c 14 0) c 15 (nI (faiF D r c td))) c 16 (nI du) = decD D r td c su du := by
    unfold decD
    rw [← dec_c]
    rfl
  rw [e9] at h1
  exact h1
theorem lg_sub_small {x y : Nat} (hx : x < 2 ^ 30) (hy : y < 2 ^ 30) : (lN x - lN y).toInt = (x : Int) - y := by
  rw [Int64.toInt_sub, pk_lT (by omega), pk_lT (by omega)]
  rw [Int.bmod_eq_of_le] <;> omega
theorem capL {x y z : Nat} (hx : x < 2 ^ 30) (hy : y < 2 ^ 30) (hz : z < 2 ^ 30) : (if (0 : Int64) < (if lN x - lN y < lN z then lN x - lN y else lN z) then (if lN x - lN y < lN z then lN x - lN y else lN z) else 0).toInt32 = nI (if z < x - y then z else x - y) := by
  rcases Nat.lt_or_ge y x with q | q
  · rw [lN_sub (by omega)]
    by_cases c1 : x - y < z
    · rw [if_pos ((pk_lLT (by omega) (by omega)).mpr c1), if_pos (show (0 : Int64) < lN (x - y) from (pk_lLT (a := 0) (by decide) (by omega)).mpr (by omega)), lN_i, if_neg (by omega)]
    · rw [if_neg (fun w => c1 ((pk_lLT (by omega) (by omega)).mp w))]
      by_cases c2 : 0 < z
      · rw [if_pos (show (0 : Int64) < lN z from (pk_lLT (a := 0) (by decide) (by omega)).mpr c2), lN_i]
        congr 1
        split <;> omega
      · rw [if_neg (show ¬ (0 : Int64) < lN z from fun w => c2 ((pk_lLT (a := 0) (by decide) (by omega)).mp w)), show z = 0 by omega, if_pos (by omega)]
        rfl
  · have hneg : ¬ (0 : Int64) < lN x - lN y := by
      rw [Int64.lt_iff_toInt_lt, lg_sub_small (by omega) (by omega)]
      show ¬ (0 : Int) < _
      omega
    have h0 : ¬ (0 : Int64) < (if lN x - lN y < lN z then lN x - lN y else lN z) := by
      split
      · exact hneg
      next w =>
        rcases Nat.eq_zero_or_pos z with e | e
        · rw [e]; decide
        · exfalso
          apply w
          rw [Int64.lt_iff_toInt_lt, lg_sub_small (by omega) (by omega), pk_lT (by omega)]
          omega
    rw [if_neg h0, show x - y = 0 by omega, if_neg (by omega)]
    rfl
