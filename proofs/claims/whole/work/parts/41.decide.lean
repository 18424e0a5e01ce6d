/-! fields of claims set; the class: Docket.awardOf, decide -/
def setF (F : Nat → Nat → Int32) (c j : Nat) (v : Int32) : Nat → Nat → Int32 := fun c' j' => if c' = c ∧ j' = j then v else F c' j'
/-- one field of one claim is another -/
def setCf (D : DK) (c j : Nat) (v : Int32) : DK := (D.1, D.2.1, (D.2.2.1.1, setF D.2.2.1.2.1 c j v, D.2.2.1.2.2), D.2.2.2)
theorem cN_set {D : DK} {c j c' j' : Nat} {v : Int32} : cN (setCf D c j v).2.2.1 c' j' = if c' = c ∧ j' = j then v.toNatClampNeg else cN D.2.2.1 c' j' := by
  unfold cN setCf setF
  simp only
  split <;> rfl
theorem cN_ne {D : DK} {c j c' j' : Nat} {v : Int32} (h : j' ≠ j) : cN (setCf D c j v).2.2.1 c' j' = cN D.2.2.1 c' j' := by
  rw [cN_set, if_neg (fun z => h z.2)]
def bnd (j : Nat) : Nat := if j = 7 then 1023 else if j = 8 then 3 else if j = 10 then 6600000 else if j = 15 then 63 else 999999
theorem bnd_le (j : Nat) : bnd j ≤ 6600000 := by
  unfold bnd
  (repeat' split) <;> omega
theorem DKok.set {D : DK} (ho : DKok D) {c j : Nat} {v : Int32} (hj : 7 ≤ j) (hv : (j = 11 ∨ j = 12) ∨ ∃ q, v = nI q ∧ q ≤ bnd j) : DKok (setCf D c j v) := by
  refine ⟨ho.1, ho.2.1, ⟨ho.2.2.1.1, fun c' hc' => ?_⟩, ho.2.2.2⟩
  obtain ⟨a0, a1, a2, a3, a4, a5, a6, a7, a8, a9, a10, a11, a12, a13, a14, a15, a16, a17⟩ := ho.2.2.1.2 c' hc'
  have e : ∀ j', j' < 7 → cN (setCf D c j v).2.2.1 c' j' = cN D.2.2.1 c' j' := fun j' h => cN_ne (by omega)
  have b : ∀ j', j' ≠ 11 → j' ≠ 12 → 7 ≤ j' → cN D.2.2.1 c' j' ≤ bnd j' → cN (setCf D c j v).2.2.1 c' j' ≤ bnd j' := by
    intro j' h1 h2 h3 h4
    rw [cN_set]
    split
    next z =>
      rcases hv with q | ⟨q, rfl, hq⟩
      · omega
      · rw [z.2]
        have hb : bnd j ≤ 6600000 := bnd_le j
        rw [nI_clamp (by omega)]
        exact hq
    next => exact h4
  refine ⟨fun j' h1 h2 h3 h4 => ?_, ?_, ?_, ?_, ?_, ?_, ?_, ?_, b 7 (by decide) (by decide) (by decide) a8, b 8 (by decide) (by decide) (by decide) a9, b 9 (by decide) (by decide) (by decide) a10, b 10 (by decide) (by decide) (by decide) a11, b 13 (by decide) (by decide) (by decide) a12, b 14 (by decide) (by decide) (by decide) a13, b 15 (by decide) (by decide) (by decide) a14, b 16 (by decide) (by decide) (by decide) a15, a16, a17⟩
  · rw [cN_set]
    show setF _ _ _ _ _ _ = _
    unfold setF
    split
    next z =>
      rcases hv with q | ⟨q, rfl, hq⟩
      · omega
      · have hb : bnd j ≤ 6600000 := bnd_le j
        rw [nI_clamp (by omega)]
    next => exact a0 j' h1 h2 h3 h4
  · rw [e 0 (by decide)]; exact a1
  · rw [e 1 (by decide)]; exact a2
  · rw [e 2 (by decide)]; exact a3
  · rw [e 3 (by decide)]; exact a4
  · rw [e 4 (by decide)]; exact a5
  · rw [e 5 (by decide)]; exact a6
  · rw [e 5 (by decide), e 2 (by decide)]; exact a7
theorem DKc.set {D : DK} {A : DA} {h : kx_Mem} (hp : DKc D A h) {c j : Nat} {v : Int32} (hc : c < D.2.2.1.1) (hpa : ∀ k, k < D.2.2.2.1 → A.2.1 k ≠ A.1 c) : DKc (setCf D c j v) A (kx_setI h (A.1 c) j v) := by
  obtain ⟨h1, h2, h3, h4, h5, h6⟩ := hp
  have hca := (h5.2 c hc).1
  have e : ∀ a, a < 154 → (kx_setI h (A.1 c) j v).1 a = h.1 a := fun a ha => by
    funext i
    exact kx_up_ne (show a ≠ A.1 c by omega)
  refine ⟨?_, ?_, ?_, ?_, ⟨h5.1, fun c' hc' => ?_⟩, fun k hk => ?_⟩
  · unfold PSc
    rw [e 14 (by decide), e 17 (by decide), e 18 (by decide), e 19 (by decide), e 20 (by decide), e 21 (by decide)]
    exact h1
  · unfold TSc
    rw [e 34 (by decide), e 35 (by decide), e 36 (by decide), e 37 (by decide)]
    exact h2
  · unfold LSc
    rw [e 40 (by decide)]
    exact h3
  · unfold LSc
    rw [e 41 (by decide)]
    exact h4
  · obtain ⟨a1, a2, a3, a4, a5⟩ := h5.2 c' hc'
    refine ⟨a1, a2, a3, fun j' hj hj6 => ?_, a5⟩
    show kx_up h.1 (A.1 c) j v (A.1 c') j' = setF D.2.2.1.2.1 c j v c' j'
    unfold kx_up setF
    by_cases ec : c' = c
    · subst ec
      by_cases ej : j' = j
      · simp [ej]
      · simp [ej, a4 j' hj hj6]
    · have : ¬ A.1 c' = A.1 c := fun q => ec (h5.1 c' c hc' hc q)
      simp [ec, this, a4 j' hj hj6]
  · have h0 := h6 k hk
    have : (kx_setI h (A.1 c) j v).1 (A.2.1 k) = h.1 (A.2.1 k) := by
      funext i
      exact kx_up_ne (hpa k hk)
    rw [this]
    exact h0
theorem DKm.set {D : DK} {n : Nat} {T : Nat → Nat} {h : kx_Mem} (hp : DKm D n T h) {c j : Nat} {v : Int32} (hj : 7 ≤ j) (hj2 : j < 17) : DKm (setCf D c j v) n T (kx_setI h (122 + j) c v) := by
  have hf : kx_Fc (fun a i => a = 122 + j ∧ i = c) h (kx_setI h (122 + j) c v) := kx_Fc.set ⟨rfl, rfl⟩
  refine ⟨hp.1.fm hf (by omega) (by omega) (fun a i _ _ => by omega), hp.2.1.fc hf (by omega) (fun a _ _ i => by omega), ⟨(hf.2 84 51 (by omega)).trans hp.2.2.1.1, fun c' hc' => ?_⟩, hp.2.2.2.fm hf (by omega) (fun a i _ _ => by omega)⟩
  obtain ⟨a1, a2, a3⟩ := hp.2.2.1.2 c' hc'
  refine ⟨fun j' h1 h2 h3 => ?_, ?_, ?_⟩
  · show kx_up h.1 (122 + j) c v (122 + j') c' = setF D.2.2.1.2.1 c j v c' j'
    unfold kx_up setF
    by_cases ej : j' = j
    · subst ej
      by_cases ec : c' = c
      · simp [ec]
      · simp [ec, a1 j' h1 h2 h3]
    · have : ¬ 122 + j' = 122 + j := by omega
      simp [ej, this, a1 j' h1 h2 h3]
  · show kx_up h.1 (122 + j) c v 128 c' = setF D.2.2.1.2.1 c j v c' 5
    unfold setF
    rw [if_neg (fun z => by omega), kx_up_ne (show 128 ≠ 122 + j by omega)]
    exact a2
  · show wdI n T _ (kx_up h.1 (122 + j) c v 127 c')
    rw [kx_up_ne (show 127 ≠ 122 + j by omega)]
    exact a3
theorem hadF_set {D : DK} {c j : Nat} {v : Int32} {r : RU} {c' kn : Nat} : hadF (setCf D c j v) r c' kn = hadF D r c' kn := by
  have : ∀ k, hadK (setCf D c j v) r c' kn k = hadK D r c' kn k := by
    intro k
    induction k with
    | zero => rfl
    | succ k ih => rw [hadK, hadK, ih]; rfl
  exact this _
theorem faiF_set {D : DK} {c j : Nat} {v : Int32} {r : RU} {c' kn : Nat} (hj : 7 ≤ j) (h8 : j = 8 → (v.toNatClampNeg = 3 ↔ cN D.2.2.1 c 8 = 3)) : faiF (setCf D c j v) r c' kn = faiF D r c' kn := by
  have e : ∀ j', j' < 7 → cN (setCf D c j v).2.2.1 c' j' = cN D.2.2.1 c' j' := fun j' h => cN_ne (by omega)
  have e8 : cN (setCf D c j v).2.2.1 c' 8 = 3 ↔ cN D.2.2.1 c' 8 = 3 := by
    rw [cN_set]
    split
    next z => rw [z.1]; exact h8 z.2.symm
    next => exact Iff.rfl
  unfold faiF f32N f16N f8N f4N f2N f1N lostD
  rw [hadF_set, e 5 (by decide), e 2 (by decide), e 0 (by decide), e 1 (by decide), propext e8]
  rfl
theorem duS_set {D : DK} {c j : Nat} {v : Int32} {r : RU} {td t : Nat} (hj : 7 ≤ j) (h8 : j = 8 → (v.toNatClampNeg = 3 ↔ cN D.2.2.1 c 8 = 3)) : ∀ k, duS (setCf D c j v) r td t k = duS D r td t k := by
  have hi : ∀ ro, inB (setCf D c j v) r td t ro = inB D r td t ro := by
    intro ro
    funext i
    unfold inB prB
    rw [faiF_set hj h8, cN_ne (show 2 ≠ j by omega), cN_ne (show 3 ≠ j by omega)]
  have ha : amt (setCf D c j v) = amt D := by
    funext i
    exact cN_ne (by omega)
  intro k
  induction k with
  | zero => rfl
  | succ k ih =>
    show (fun c' => if inB (setCf D c j v) r td t (ruO r k) c' then newS (inB (setCf D c j v) r td t (ruO r k)) (amt (setCf D c j v)) D.2.2.1.1 (duS (setCf D c j v) r td t k).2 c' else (duS (setCf D c j v) r td t k).1 c', newL (inB (setCf D c j v) r td t (ruO r k)) (amt (setCf D c j v)) D.2.2.1.1 (duS (setCf D c j v) r td t k).2) = _
    rw [ih, hi, ha]
    rfl
theorem dueF_set {D : DK} {c j : Nat} {v : Int32} {r : RU} {td c' : Nat} (hj : 7 ≤ j) (h8 : j = 8 → (v.toNatClampNeg = 3 ↔ cN D.2.2.1 c 8 = 3)) : dueF (setCf D c j v) r td c' = dueF D r td c' := by
  unfold dueF
  rw [duS_set hj h8, cN_ne (show 2 ≠ j by omega)]
/-- settings within their bounds -/
def rsN (r : RU) (j : Nat) : Nat := (ruS r j).toNatClampNeg
def RSet (r : RU) : Prop := (∀ j, j < 11 → j ≠ 7 → ruS r j = nI (rsN r j)) ∧ (∀ j, j < 11 → j ≠ 7 → rsN r j ≤ 1999) ∧ rsN r 4 ≤ 99 ∧ rsN r 5 ≤ 1 ∧ rsN r 6 ≤ 2 ∧ rsN r 8 ≤ 10 ∧ 1 ≤ rsN r 10 ∧ rsN r 10 ≤ 100 ∧ (ruS r 7 = -1 ∨ (ruS r 7 = nI (rsN r 7) ∧ 1 ≤ rsN r 7 ∧ rsN r 7 ≤ 9999))
def sinD (D : DK) (r : RU) (c : Nat) : Nat := if rsN r 5 = 0 then lostD D c else cN D.2.2.1 c 5
def allF (D : DK) (r : RU) (td c su : Nat) : Nat := su + su * rsN r 4 * (td - sinD D r c) / 36000
def awdF (D : DK) (r : RU) (td c su : Nat) : Nat := if ruS r 7 = -1 then allF D r td c su else if allF D r td c su < rsN r 7 * 1000 - sumA D.2.2.1 D.2.2.1.1 then allF D r td c su else rsN r 7 * 1000 - sumA D.2.2.1 D.2.2.1.1
theorem allF_le {D : DK} {r : RU} {td c su : Nat} (h4 : rsN r 4 ≤ 99) (hsu : su ≤ 999999) (htd : td ≤ 1999) : su * rsN r 4 * (td - sinD D r c) ≤ 999999 * 99 * 1999 ∧ allF D r td c su ≤ 6600000 := by
  have h1 : su * rsN r 4 * (td - sinD D r c) ≤ 999999 * 99 * 1999 := Nat.mul_le_mul (Nat.mul_le_mul hsu h4) (by omega)
  refine ⟨h1, ?_⟩
  unfold allF
  omega
theorem awdF_le {D : DK} {r : RU} {td c su : Nat} (h4 : rsN r 4 ≤ 99) (hsu : su ≤ 999999) (htd : td ≤ 1999) : awdF D r td c su ≤ 6600000 := by
  have := (allF_le (D := D) (c := c) h4 hsu htd).2
  unfold awdF
  split
  · exact this
  · split <;> omega
theorem capI {x y z : Nat} (hx : x < 2 ^ 30) (hy : y < 2 ^ 30) (hz : z < 2 ^ 30) : (if (if (0 : Int32) < nI x - nI y then nI x - nI y else 0).toInt64 < lN z then (if (0 : Int32) < nI x - nI y then nI x - nI y else 0).toInt64 else lN z).toInt32 = nI (if z < x - y then z else x - y) := by
  have e : (if (0 : Int32) < nI x - nI y then nI x - nI y else 0) = nI (x - y) := by
    rcases Nat.lt_or_ge y x with q | q
    · rw [pk_sub (by omega), if_pos (show (0 : Int32) < nI (x - y) from nI_lt (a := 0) (by omega) (by omega))]
    · rw [show x - y = 0 by omega, nI_0]
      rcases Nat.lt_or_ge x y with q2 | q2
      · rw [if_neg (Int32.not_lt.mpr (Int32.le_of_lt (pk_sneg hy q2)))]
      · rw [show x = y by omega, Int32.sub_self]; rfl
  rw [e, nI_l (by omega)]
  by_cases q : x - y < z
  · rw [if_pos ((pk_lLT (by omega) (by omega)).mpr q), lN_i, if_neg (by omega)]
  · rw [if_neg (fun w => q ((pk_lLT (by omega) (by omega)).mp w)), lN_i]
    split
    · rfl
    · congr 1; omega
theorem x_Do_awardOf {l : Launch} {g : kx_G} {d : Nat} {h : kx_Mem} (hs : SC h) (D : DK) (A : DA) (ho : DKok D) (hp : DKc D A h) (a : Nat) (hra : isRuA a) (r : RU) (hro : RUok r) (hse : RSet r) (hrp : RUc r a h) (c : Nat) (hc : c < D.2.2.1.1) (td : Nat) (htd : td ≤ 1999) (hfi : cN D.2.2.1 c 5 ≤ td) (su : Nat) (hsu : su ≤ 999999) : kx_Sp l g m_Do_awardOf [.ref 39, .ref (A.1 c), .int (nI su), .ref a, .int (nI td)] h (d + 4) 0 0 (fun v h' => v = some (.int (nI (awdF D r td c su))) ∧ h' = h) := by
  have o60 := ho.2.2.1.1
  have ha83 : a ≤ 75 := by unfold isRuA at hra; omega
  have hr := IsRu.of hs hra
  have hcc := hp.2.2.2.2.1.2 c hc
  have occ := ho.2.2.1.2 c hc
  have f2 := (hcc.2.2.2.1 2 (by decide) (by decide)).trans (occ.1 2 (by decide) (by decide) (by decide) (by decide))
  have f5 := (hcc.2.2.2.1 5 (by decide) (by decide)).trans (occ.1 5 (by decide) (by decide) (by decide) (by decide))
  obtain ⟨-, q0, q1, q2, q3, q4, q5, qd, -⟩ := occ
  have oth := (ho.2.1.2 (cN D.2.2.1 c 2) q2).1
  have ol : lostD D c ≤ cN D.2.2.1 c 5 := qd
  have s4 := (hrp.1 4 (by decide)).trans (hse.1 4 (by decide) (by decide))
  have s5 := (hrp.1 5 (by decide)).trans (hse.1 5 (by decide) (by decide))
  have s7 := hrp.1 7 (by decide)
  obtain ⟨t0, t1, t4, t5, t6, t8, t10, t11, t7⟩ := hse
  have hall := allF_le (D := D) (r := r) (c := c) t4 hsu htd
  have hsm := sumA_le ho.2.2.1 D.2.2.1.1 (Nat.le_refl _)
  refine kx_enter_e (lv := [_, _, _, _, _, _, _, _, _, _]) (by decide +kernel) (Nat.le_of_ble_eq_true rfl) rfl ?_
  refine kx_aload_n (pc := 0) (kx_dd d_Do_awardOf 0 rfl) rfl rfl ?_
  refine kx_getR (pc := 1) (b := (a + 1)) fl_Do_95 (congrArg Prod.fst hr.1) rfl (hr.2.2.2.2.2.2.2.2.2.1) (kx_dd d_Do_awardOf 1 rfl) ?_
  refine kx_iconst (pc := 4) (v := 5) (kx_dd d_Do_awardOf 2 rfl) rfl ?_
  refine kx_ialdn (pc := 5) 5 (hr.2.1) rfl (by decide) (by decide) (kx_dd d_Do_awardOf 3 rfl) ?_
  refine kx_if_ne (pc := 6) (tgt := 13) (kx_dd d_Do_awardOf 4 rfl) rfl (fun c6 => ?_) (fun c6 => ?_)
  · refine kx_iconst (pc := 13) (v := 0) (kx_dd d_Do_awardOf 7 rfl) rfl ?_
    refine kx_istore_e (pc := 14) (lv' := [_, _, _, _, _, _, _, _, _, _]) (kx_dd d_Do_awardOf 8 rfl) (Nat.le_of_ble_eq_true rfl) rfl ?_
    refine kx_iload (pc := 16) (kx_dd d_Do_awardOf 9 rfl) rfl ?_
    refine kx_iload (pc := 18) (kx_dd d_Do_awardOf 10 rfl) rfl ?_
    refine kx_if_eq (pc := 20) (tgt := 37) (kx_dd d_Do_awardOf 11 rfl) rfl (fun _ => ?_) (fun c20 => absurd c20 (by decide))
    refine kx_aload_n (pc := 37) (kx_dd d_Do_awardOf 18 rfl) rfl rfl ?_
    refine kx_getI (pc := 38) fl_Do_92 (congrArg Prod.fst hcc.2.2.1) rfl (kx_dd d_Do_awardOf 19 rfl) ?_
    refine kx_isub (pc := 41) (kx_dd d_Do_awardOf 20 rfl) ?_
    refine kx_istore_e (pc := 42) (lv' := [_, _, _, _, _, _, _, _, _, _]) (kx_dd d_Do_awardOf 21 rfl) (Nat.le_of_ble_eq_true rfl) rfl ?_
    refine kx_iload_n (pc := 44) (kx_dd d_Do_awardOf 22 rfl) rfl rfl ?_
    refine kx_i2l (pc := 45) (kx_dd d_Do_awardOf 23 rfl) ?_
    refine kx_iload_n (pc := 46) (kx_dd d_Do_awardOf 24 rfl) rfl rfl ?_
    refine kx_i2l (pc := 47) (kx_dd d_Do_awardOf 25 rfl) ?_
    refine kx_aload_n (pc := 48) (kx_dd d_Do_awardOf 26 rfl) rfl rfl ?_
    refine kx_getR (pc := 49) (b := (a + 1)) fl_Do_95 (congrArg Prod.fst hr.1) rfl (hr.2.2.2.2.2.2.2.2.2.1) (kx_dd d_Do_awardOf 27 rfl) ?_
    refine kx_iconst (pc := 52) (v := 4) (kx_dd d_Do_awardOf 28 rfl) rfl ?_
    refine kx_ialdn (pc := 53) 4 (hr.2.1) rfl (by decide) (by decide) (kx_dd d_Do_awardOf 29 rfl) ?_
    refine kx_i2l (pc := 54) (kx_dd d_Do_awardOf 30 rfl) ?_
    refine kx_lmul (pc := 55) (kx_dd d_Do_awardOf 31 rfl) ?_
    refine kx_iload (pc := 56) (kx_dd d_Do_awardOf 32 rfl) rfl ?_
    refine kx_i2l (pc := 58) (kx_dd d_Do_awardOf 33 rfl) ?_
    refine kx_lmul (pc := 59) (kx_dd d_Do_awardOf 34 rfl) ?_
    refine kx_ldc2 (pc := 60) kl_Do_181 (kx_dd d_Do_awardOf 35 rfl) ?_
    refine kx_ldiv (pc := 63) (kx_dd d_Do_awardOf 36 rfl) (by decide) ?_
    refine kx_ladd (pc := 64) (kx_dd d_Do_awardOf 37 rfl) ?_
    refine kx_lstore_e (pc := 65) (lv' := [_, _, _, _, _, _, _, _, _, _]) (kx_dd d_Do_awardOf 38 rfl) (Nat.le_of_ble_eq_true rfl) rfl ?_
    refine kx_aload_n (pc := 67) (kx_dd d_Do_awardOf 39 rfl) rfl rfl ?_
    refine kx_getR (pc := 68) (b := (a + 1)) fl_Do_95 (congrArg Prod.fst hr.1) rfl (hr.2.2.2.2.2.2.2.2.2.1) (kx_dd d_Do_awardOf 40 rfl) ?_
    refine kx_bipush (pc := 71) (v := 7) (kx_dd d_Do_awardOf 41 rfl) rfl ?_
    refine kx_ialdn (pc := 73) 7 (hr.2.1) rfl (by decide) (by decide) (kx_dd d_Do_awardOf 42 rfl) ?_
    refine kx_istore_e (pc := 74) (lv' := [_, _, _, _, _, _, _, _, _, _]) (kx_dd d_Do_awardOf 43 rfl) (Nat.le_of_ble_eq_true rfl) rfl ?_
    refine kx_iload (pc := 76) (kx_dd d_Do_awardOf 44 rfl) rfl ?_
    refine kx_iconst (pc := 78) (v := -1) (kx_dd d_Do_awardOf 45 rfl) rfl ?_
    refine kx_icmp_eq (pc := 79) (tgt := 105) (kx_dd d_Do_awardOf 46 rfl) rfl (fun c79 => ?_) (fun c79 => ?_)
    · refine kx_lload (pc := 105) (kx_dd d_Do_awardOf 59 rfl) rfl ?_
      refine kx_l2i (pc := 107) (kx_dd d_Do_awardOf 60 rfl) ?_
      refine kx_iret (pc := 108) rfl (kx_dd d_Do_awardOf 61 rfl) (Nat.le_refl _) (Nat.le_refl _) ?_
      rw [s7] at c79
      rw [s5, nI_z (by omega)] at c6
      have hsin : sinD D r c = cN D.2.2.1 c 5 := if_neg c6
      have hle : sinD D r c ≤ td := by rw [hsin]; omega
      have ev : (nI su).toInt64 + (nI su).toInt64 * (h.1 (a + 1) 4).toInt64 * (nI td - h.1 (A.1 c) 5).toInt64 / 36000 = lN (allF D r td c su) := by
        rw [f5, s4, ← hsin, pk_sub hle, nI_l (by omega), nI_l (by omega), nI_l (by omega), lN_mul, lN_mul, show (36000 : Int64) = lN 36000 from rfl, pk_lDiv (by omega) (by decide) (by decide), lN_add]
        rfl
      refine ⟨?_, rfl⟩
      rw [ev, lN_i]
      unfold awdF
      rw [if_pos c79]
    · refine kx_lload (pc := 82) (kx_dd d_Do_awardOf 47 rfl) rfl ?_
      refine kx_iconst (pc := 84) (v := 0) (kx_dd d_Do_awardOf 48 rfl) rfl ?_
      refine kx_iload (pc := 85) (kx_dd d_Do_awardOf 49 rfl) rfl ?_
      refine kx_sipush (pc := 87) (v := 1000) (kx_dd d_Do_awardOf 50 rfl) rfl ?_
      refine kx_imul (pc := 90) (kx_dd d_Do_awardOf 51 rfl) ?_
      refine kx_aload_n (pc := 91) (kx_dd d_Do_awardOf 52 rfl) rfl rfl ?_
      refine kx_invV (pc := 92) (a := 39) (as := []) (kx_dd d_Do_awardOf 53 rfl) ⟨lk_Do_183, wi_Do_sumOfAwards, we_Do_sumOfAwards⟩ w_Do_sumOfAwards (hs.k 39 rfl) rfl rfl rfl rfl (Nat.le_of_ble_eq_true rfl) (x_Do_sumOfAwards (d := d) hs D A ho hp) (Nat.le_refl _) ⟨Nat.le_refl _, Nat.le_refl _⟩ (fun v h' hq => ?_)
      obtain ⟨rfl, he⟩ := hq
      rw [he]
      clear he
      refine kx_isub (pc := 95) (kx_dd d_Do_awardOf 54 rfl) ?_
      refine kx_mmax (pc := 96) mk_Do_186 (kx_dd d_Do_awardOf 55 rfl) (Nat.le_of_ble_eq_true rfl) (Nat.le_of_ble_eq_true rfl) (Nat.le_refl _) (Nat.le_refl _) ?_
      refine kx_i2l (pc := 99) (kx_dd d_Do_awardOf 56 rfl) ?_
      refine kx_mminL (pc := 100) mk_Do_192 (kx_dd d_Do_awardOf 57 rfl) (Nat.le_of_ble_eq_true rfl) (Nat.le_of_ble_eq_true rfl) (Nat.le_refl _) (Nat.le_refl _) ?_
      refine kx_lstore_e (pc := 103) (lv' := [_, _, _, _, _, _, _, _, _, _]) (kx_dd d_Do_awardOf 58 rfl) (Nat.le_of_ble_eq_true rfl) rfl ?_
      refine kx_lload (pc := 105) (kx_dd d_Do_awardOf 59 rfl) rfl ?_
      refine kx_l2i (pc := 107) (kx_dd d_Do_awardOf 60 rfl) ?_
      refine kx_iret (pc := 108) rfl (kx_dd d_Do_awardOf 61 rfl) (Nat.le_refl _) (Nat.le_refl _) ?_
      rw [s7] at c79
      rw [s5, nI_z (by omega)] at c6
      have hsin : sinD D r c = cN D.2.2.1 c 5 := if_neg c6
      have hle : sinD D r c ≤ td := by rw [hsin]; omega
      have ev : (nI su).toInt64 + (nI su).toInt64 * (h.1 (a + 1) 4).toInt64 * (nI td - h.1 (A.1 c) 5).toInt64 / 36000 = lN (allF D r td c su) := by
        rw [f5, s4, ← hsin, pk_sub hle, nI_l (by omega), nI_l (by omega), nI_l (by omega), lN_mul, lN_mul, show (36000 : Int64) = lN 36000 from rfl, pk_lDiv (by omega) (by decide) (by decide), lN_add]
        rfl
      rcases t7 with t7 | ⟨t7, t71, t72⟩
      · exact absurd t7 c79
      refine ⟨?_, rfl⟩
      unfold awdF
      rw [if_neg c79, ev, s7, t7, show (1000 : Int32) = nI 1000 from rfl, pk_mul]
      exact congrArg (fun z => some (Value.int z)) (capI (by omega) (by omega) (by omega))
  · refine kx_iconst (pc := 9) (v := 1) (kx_dd d_Do_awardOf 5 rfl) rfl ?_
    refine kx_goto (pc := 10) (tgt := 14) (kx_dd d_Do_awardOf 6 rfl) rfl ?_
    refine kx_istore_e (pc := 14) (lv' := [_, _, _, _, _, _, _, _, _, _]) (kx_dd d_Do_awardOf 8 rfl) (Nat.le_of_ble_eq_true rfl) rfl ?_
    refine kx_iload (pc := 16) (kx_dd d_Do_awardOf 9 rfl) rfl ?_
    refine kx_iload (pc := 18) (kx_dd d_Do_awardOf 10 rfl) rfl ?_
    refine kx_if_eq (pc := 20) (tgt := 37) (kx_dd d_Do_awardOf 11 rfl) rfl (fun c20 => absurd c20 (by decide)) (fun _ => ?_)
    refine kx_aload_n (pc := 23) (kx_dd d_Do_awardOf 12 rfl) rfl rfl ?_
    refine kx_getR (pc := 24) (b := 34) fl_Do_25 (hs.k 39 rfl) rfl (hs.r 42 rfl) (kx_dd d_Do_awardOf 13 rfl) ?_
    refine kx_aload_n (pc := 27) (kx_dd d_Do_awardOf 14 rfl) rfl rfl ?_
    refine kx_getI (pc := 28) fl_Do_79 (congrArg Prod.fst hcc.2.2.1) rfl (kx_dd d_Do_awardOf 15 rfl) ?_
    rw [f2]
    refine kx_invV (pc := 31) (a := 34) (as := [_]) (kx_dd d_Do_awardOf 16 rfl) ⟨lk_Do_82, wi_Th_dayOf, we_Th_dayOf⟩ w_Th_dayOf (hs.k 34 rfl) rfl rfl rfl rfl (Nat.le_of_ble_eq_true rfl) (x_Th_dayOf (d := d + 2) hs D.2.1 ho.2.1 hp.2.1 (cN D.2.2.1 c 2) q2) (Nat.le_refl _) ⟨Nat.le_refl _, Nat.le_refl _⟩ (fun v h' hq => ?_)
    obtain ⟨rfl, he⟩ := hq
    rw [he]
    clear he
    refine kx_goto (pc := 34) (tgt := 41) (kx_dd d_Do_awardOf 17 rfl) rfl ?_
    refine kx_isub (pc := 41) (kx_dd d_Do_awardOf 20 rfl) ?_
    refine kx_istore_e (pc := 42) (lv' := [_, _, _, _, _, _, _, _, _, _]) (kx_dd d_Do_awardOf 21 rfl) (Nat.le_of_ble_eq_true rfl) rfl ?_
    refine kx_iload_n (pc := 44) (kx_dd d_Do_awardOf 22 rfl) rfl rfl ?_
    refine kx_i2l (pc := 45) (kx_dd d_Do_awardOf 23 rfl) ?_
    refine kx_iload_n (pc := 46) (kx_dd d_Do_awardOf 24 rfl) rfl rfl ?_
    refine kx_i2l (pc := 47) (kx_dd d_Do_awardOf 25 rfl) ?_
    refine kx_aload_n (pc := 48) (kx_dd d_Do_awardOf 26 rfl) rfl rfl ?_
    refine kx_getR (pc := 49) (b := (a + 1)) fl_Do_95 (congrArg Prod.fst hr.1) rfl (hr.2.2.2.2.2.2.2.2.2.1) (kx_dd d_Do_awardOf 27 rfl) ?_
    refine kx_iconst (pc := 52) (v := 4) (kx_dd d_Do_awardOf 28 rfl) rfl ?_
    refine kx_ialdn (pc := 53) 4 (hr.2.1) rfl (by decide) (by decide) (kx_dd d_Do_awardOf 29 rfl) ?_
    refine kx_i2l (pc := 54) (kx_dd d_Do_awardOf 30 rfl) ?_
    refine kx_lmul (pc := 55) (kx_dd d_Do_awardOf 31 rfl) ?_
    refine kx_iload (pc := 56) (kx_dd d_Do_awardOf 32 rfl) rfl ?_
    refine kx_i2l (pc := 58) (kx_dd d_Do_awardOf 33 rfl) ?_
    refine kx_lmul (pc := 59) (kx_dd d_Do_awardOf 34 rfl) ?_
    refine kx_ldc2 (pc := 60) kl_Do_181 (kx_dd d_Do_awardOf 35 rfl) ?_
    refine kx_ldiv (pc := 63) (kx_dd d_Do_awardOf 36 rfl) (by decide) ?_
    refine kx_ladd (pc := 64) (kx_dd d_Do_awardOf 37 rfl) ?_
    refine kx_lstore_e (pc := 65) (lv' := [_, _, _, _, _, _, _, _, _, _]) (kx_dd d_Do_awardOf 38 rfl) (Nat.le_of_ble_eq_true rfl) rfl ?_
    refine kx_aload_n (pc := 67) (kx_dd d_Do_awardOf 39 rfl) rfl rfl ?_
    refine kx_getR (pc := 68) (b := (a + 1)) fl_Do_95 (congrArg Prod.fst hr.1) rfl (hr.2.2.2.2.2.2.2.2.2.1) (kx_dd d_Do_awardOf 40 rfl) ?_
    refine kx_bipush (pc := 71) (v := 7) (kx_dd d_Do_awardOf 41 rfl) rfl ?_
    refine kx_ialdn (pc := 73) 7 (hr.2.1) rfl (by decide) (by decide) (kx_dd d_Do_awardOf 42 rfl) ?_
    refine kx_istore_e (pc := 74) (lv' := [_, _, _, _, _, _, _, _, _, _]) (kx_dd d_Do_awardOf 43 rfl) (Nat.le_of_ble_eq_true rfl) rfl ?_
    refine kx_iload (pc := 76) (kx_dd d_Do_awardOf 44 rfl) rfl ?_
    refine kx_iconst (pc := 78) (v := -1) (kx_dd d_Do_awardOf 45 rfl) rfl ?_
    refine kx_icmp_eq (pc := 79) (tgt := 105) (kx_dd d_Do_awardOf 46 rfl) rfl (fun c79 => ?_) (fun c79 => ?_)
    · refine kx_lload (pc := 105) (kx_dd d_Do_awardOf 59 rfl) rfl ?_
      refine kx_l2i (pc := 107) (kx_dd d_Do_awardOf 60 rfl) ?_
      refine kx_iret (pc := 108) rfl (kx_dd d_Do_awardOf 61 rfl) (Nat.le_refl _) (Nat.le_refl _) ?_
      rw [s7] at c79
      rw [s5, nI_z (by omega)] at c6
      have hsin : sinD D r c = lostD D c := if_pos c6
      have hle : sinD D r c ≤ td := by rw [hsin]; omega
      have ev : (nI su).toInt64 + (nI su).toInt64 * (h.1 (a + 1) 4).toInt64 * (nI td - nI (lostD D c)).toInt64 / 36000 = lN (allF D r td c su) := by
        rw [s4, ← hsin, pk_sub hle, nI_l (by omega), nI_l (by omega), nI_l (by omega), lN_mul, lN_mul, show (36000 : Int64) = lN 36000 from rfl, pk_lDiv (by omega) (by decide) (by decide), lN_add]
        rfl
      refine ⟨?_, rfl⟩
      rw [ev, lN_i]
      unfold awdF
      rw [if_pos c79]
    · refine kx_lload (pc := 82) (kx_dd d_Do_awardOf 47 rfl) rfl ?_
      refine kx_iconst (pc := 84) (v := 0) (kx_dd d_Do_awardOf 48 rfl) rfl ?_
      refine kx_iload (pc := 85) (kx_dd d_Do_awardOf 49 rfl) rfl ?_
      refine kx_sipush (pc := 87) (v := 1000) (kx_dd d_Do_awardOf 50 rfl) rfl ?_
      refine kx_imul (pc := 90) (kx_dd d_Do_awardOf 51 rfl) ?_
      refine kx_aload_n (pc := 91) (kx_dd d_Do_awardOf 52 rfl) rfl rfl ?_
      refine kx_invV (pc := 92) (a := 39) (as := []) (kx_dd d_Do_awardOf 53 rfl) ⟨lk_Do_183, wi_Do_sumOfAwards, we_Do_sumOfAwards⟩ w_Do_sumOfAwards (hs.k 39 rfl) rfl rfl rfl rfl (Nat.le_of_ble_eq_true rfl) (x_Do_sumOfAwards (d := d) hs D A ho hp) (Nat.le_refl _) ⟨Nat.le_refl _, Nat.le_refl _⟩ (fun v h' hq => ?_)
      obtain ⟨rfl, he⟩ := hq
      rw [he]
      clear he
      refine kx_isub (pc := 95) (kx_dd d_Do_awardOf 54 rfl) ?_
      refine kx_mmax (pc := 96) mk_Do_186 (kx_dd d_Do_awardOf 55 rfl) (Nat.le_of_ble_eq_true rfl) (Nat.le_of_ble_eq_true rfl) (Nat.le_refl _) (Nat.le_refl _) ?_
      refine kx_i2l (pc := 99) (kx_dd d_Do_awardOf 56 rfl) ?_
      refine kx_mminL (pc := 100) mk_Do_192 (kx_dd d_Do_awardOf 57 rfl) (Nat.le_of_ble_eq_true rfl) (Nat.le_of_ble_eq_true rfl) (Nat.le_refl _) (Nat.le_refl _) ?_
      refine kx_lstore_e (pc := 103) (lv' := [_, _, _, _, _, _, _, _, _, _]) (kx_dd d_Do_awardOf 58 rfl) (Nat.le_of_ble_eq_true rfl) rfl ?_
      refine kx_lload (pc := 105) (kx_dd d_Do_awardOf 59 rfl) rfl ?_
      refine kx_l2i (pc := 107) (kx_dd d_Do_awardOf 60 rfl) ?_
      refine kx_iret (pc := 108) rfl (kx_dd d_Do_awardOf 61 rfl) (Nat.le_refl _) (Nat.le_refl _) ?_
      rw [s7] at c79
      rw [s5, nI_z (by omega)] at c6
      have hsin : sinD D r c = lostD D c := if_pos c6
      have hle : sinD D r c ≤ td := by rw [hsin]; omega
      have ev : (nI su).toInt64 + (nI su).toInt64 * (h.1 (a + 1) 4).toInt64 * (nI td - nI (lostD D c)).toInt64 / 36000 = lN (allF D r td c su) := by
        rw [s4, ← hsin, pk_sub hle, nI_l (by omega), nI_l (by omega), nI_l (by omega), lN_mul, lN_mul, show (36000 : Int64) = lN 36000 from rfl, pk_lDiv (by omega) (by decide) (by decide), lN_add]
        rfl
      rcases t7 with t7 | ⟨t7, t71, t72⟩
      · exact absurd t7 c79
      refine ⟨?_, rfl⟩
      unfold awdF
      rw [if_neg c79, ev, s7, t7, show (1000 : Int32) = nI 1000 from rfl, pk_mul]
      exact congrArg (fun z => some (Value.int z)) (capI (by omega) (by omega) (by omega))
