/-! test cases: the class: findLikes, pairs, triples, choose; tests, test -/
theorem dcP {p q : Prop} (h : p ↔ q) : @decide p (Classical.propDecidable p) = @decide q (Classical.propDecidable q) := by
  have e := propext h
  subst e
  rfl
/-- which pairs findLikes has seen when it stands at i, j -/
def seP (D : DK) (q i j a b : Nat) : Prop := opD D a ∧ opD D b ∧ likP D q a b ∧ ((a < i ∧ b < i) ∨ (a = i ∧ b < j) ∨ (b = i ∧ a < j))
noncomputable def seM (D : DK) (q i j a : Nat) : Nat := pvK (fun b => @decide (seP D q i j a b) (Classical.propDecidable _)) D.2.2.1.1
def LKp (D : DK) (M : Nat → Nat) (h : kx_Mem) : Prop := ∀ a, a < D.2.2.1.1 → h.2.1 43 a = lN (M a)
theorem seM_lt {D : DK} (ho : DKok D) {q i j a : Nat} : seM D q i j a < 2 ^ 60 := Nat.lt_of_lt_of_le (pvK_lt _) (Nat.pow_le_pow_right (by decide) ho.2.2.1.1)
theorem seM_c {D : DK} {q i j i' j' a : Nat} (h : ∀ b, b < D.2.2.1.1 → (seP D q i j a b ↔ seP D q i' j' a b)) : seM D q i j a = seM D q i' j' a := pvK_c _ (fun b hb => dcP (h b hb))
theorem seM_or {D : DK} {q i j i' j' a e : Nat} (he : e < D.2.2.1.1) (h : ∀ b, b < D.2.2.1.1 → (seP D q i' j' a b ↔ seP D q i j a b ∨ b = e)) : seM D q i' j' a = seM D q i j a ||| 2 ^ e := pvK_or he (fun b hb => by simp only [decide_eq_true_iff]; exact h b hb)
theorem seM_0 {D : DK} {q a : Nat} : seM D q 0 0 a = 0 := by
  apply Nat.eq_of_testBit_eq
  intro i
  unfold seM
  rw [pvK_t]
  have : ¬ seP D q 0 0 a i := fun z => by have := z.2.2.2; omega
  simp [this]
theorem seM_in {D : DK} {q i a : Nat} : seM D q i (i + 1) a = seM D q (i + 1) 0 a := seM_c (fun b _ => by
  unfold seP
  have : ((a < i ∧ b < i) ∨ (a = i ∧ b < i + 1) ∨ (b = i ∧ a < i + 1)) ↔ ((a < i + 1 ∧ b < i + 1) ∨ (a = i + 1 ∧ b < 0) ∨ (b = i + 1 ∧ a < 0)) := by omega
  rw [this])
theorem seM_no {D : DK} {q i j a : Nat} (h : ¬ (opD D i ∧ opD D j ∧ likP D q i j)) : seM D q i (j + 1) a = seM D q i j a := seM_c (fun b _ => by
  unfold seP
  constructor
  · rintro ⟨h1, h2, h3, h4⟩
    refine ⟨h1, h2, h3, ?_⟩
    by_cases e1 : a = i ∧ b = j
    · rw [e1.1] at h1 h3; rw [e1.2] at h2 h3; exact absurd ⟨h1, h2, h3⟩ h
    · by_cases e2 : b = i ∧ a = j
      · rw [e2.1] at h2 h3; rw [e2.2] at h1 h3; exact absurd ⟨h2, h1, likP_comm.mp h3⟩ h
      · omega
  · rintro ⟨h1, h2, h3, h4⟩
    exact ⟨h1, h2, h3, by omega⟩)
theorem seM_yes {D : DK} {q i j a : Nat} (hi : i < D.2.2.1.1) (hj : j ≤ i) (h : opD D i ∧ opD D j ∧ likP D q i j) : seM D q i (j + 1) a = (if a = j then (if j = i then seM D q i j i ||| 2 ^ j else seM D q i j j) ||| 2 ^ i else if a = i then seM D q i j i ||| 2 ^ j else seM D q i j a) := by
  obtain ⟨h1, h2, h3⟩ := h
  have hc : likP D q j i := likP_comm.mp h3
  have hA : ∀ b, b < D.2.2.1.1 → (seP D q i (j + 1) i b ↔ seP D q i j i b ∨ b = j) := fun b _ => by
    unfold seP
    constructor
    · rintro ⟨g1, g2, g3, g4⟩
      by_cases e : b = j
      · exact Or.inr e
      · exact Or.inl ⟨g1, g2, g3, by omega⟩
    · rintro (⟨g1, g2, g3, g4⟩ | rfl)
      · exact ⟨g1, g2, g3, by omega⟩
      · exact ⟨h1, h2, h3, by omega⟩
  by_cases e : a = j
  · rw [if_pos e, e]
    by_cases e2 : j = i
    · rw [if_pos e2]
      subst e2
      rw [seM_or hi hA, Nat.or_assoc, Nat.or_self]
    · rw [if_neg e2]
      refine seM_or hi (fun b _ => ?_)
      unfold seP
      constructor
      · rintro ⟨g1, g2, g3, g4⟩
        by_cases e3 : b = i
        · exact Or.inr e3
        · exact Or.inl ⟨g1, g2, g3, by omega⟩
      · rintro (⟨g1, g2, g3, g4⟩ | rfl)
        · exact ⟨g1, g2, g3, by omega⟩
        · exact ⟨h2, h1, hc, by omega⟩
  · rw [if_neg e]
    by_cases e2 : a = i
    · rw [if_pos e2, e2]
      exact seM_or (by omega) hA
    · rw [if_neg e2]
      exact seM_c (fun b _ => by
        unfold seP
        constructor
        · rintro ⟨g1, g2, g3, g4⟩; exact ⟨g1, g2, g3, by omega⟩
        · rintro ⟨g1, g2, g3, g4⟩; exact ⟨g1, g2, g3, by omega⟩)
theorem seM_end {D : DK} {q a : Nat} (ha : a < D.2.2.1.1) : seM D q D.2.2.1.1 0 a = lkC D q a := by
  by_cases h : opD D a
  · rw [lkC_t h]
    unfold seM lkN
    refine pvK_c _ (fun b hb => ?_)
    unfold likB
    have : seP D q D.2.2.1.1 0 a b ↔ (opD D b ∧ likP D q a b) := ⟨fun z => ⟨z.2.1, z.2.2.1⟩, fun z => ⟨h, z.1, z.2, Or.inl ⟨ha, hb⟩⟩⟩
    exact dcP this
  · rw [lkC_f h]
    apply Nat.eq_of_testBit_eq
    intro i
    unfold seM
    rw [pvK_t]
    have : ¬ seP D q D.2.2.1.1 0 a i := fun z => h z.1
    simp [this]
/-- findLikes changes its row and its count -/
def FfP (a j : Nat) : Prop := a = 42 ∧ j = 4
theorem x_fl_in {l : Launch} {g : kx_G} {d : Nat} (h0 : kx_Mem) (hs0 : SC h0) (D : DK) (A : DA) (ho : DKok D) (hp0 : DKc D A h0) (q : Nat) (hq0 : q < 2 ^ 30) (Q : Option Value → kx_Mem → Prop) (i : Nat) (hi : i < D.2.2.1.1) (kont : ∀ h w4 w5 w6 w7, kx_Fg FfP FtL2 h0 h → h.1 42 4 = nI D.2.2.1.1 → LKp D (seM D q (i + 1) 0) h → kx_X (l, g, m_Te_findLikes, d + 3, 0, 0, Q) 0 0 26 [some (.ref 42), some (.ref 39), some (.int (nI q)), some (.int (nI (i + 1))), w4, w5, w6, w7] [] h) : ∀ f j, j + f = i + 1 → ∀ h w5 w6 w7, kx_Fg FfP FtL2 h0 h → h.1 42 4 = nI D.2.2.1.1 → LKp D (seM D q i j) h → kx_X (l, g, m_Te_findLikes, d + 3, 0, 0, Q) 0 0 37 [some (.ref 42), some (.ref 39), some (.int (nI q)), some (.int (nI i)), some (.int (nI j)), w5, w6, w7] [] h := by
  intro f
  induction f with
  | zero =>
    intro j hj h w5 w6 w7 hf h4 hM
    have e : j = i + 1 := by omega
    subst e
    have hs : SC h := hs0.fg hf
    have hp : DKc D A h := hp0.fgx hf (fun a j z => by unfold FfP FtL2; omega)
    have o1 := ho.2.2.1.1
    refine kx_iload (pc := 37) (kx_dd d_Te_findLikes 19 rfl) rfl ?_
    refine kx_iload_n (pc := 39) (kx_dd d_Te_findLikes 20 rfl) rfl rfl ?_
    refine kx_icmp_gt (pc := 40) (tgt := 141) (kx_dd d_Te_findLikes 21 rfl) rfl (fun c40 => ?_) (fun c40 => ?_)
    · refine kx_iinc_e (pc := 141) (v := nI (i + 1)) (lv' := [_, _, _, _, _, _, _, _]) (kx_dd d_Te_findLikes 73 rfl) rfl (Nat.le_of_ble_eq_true rfl) (nI_1 i) rfl ?_
      refine kx_goto (pc := 144) (tgt := 26) (kx_dd d_Te_findLikes 74 rfl) rfl ?_
      exact kont _ _ _ _ _ hf h4 (fun a ha => by rw [hM a ha, seM_in])
    · exact absurd (nI_lt (by omega) (by omega)) c40
  | succ f ih =>
    intro j hj h w5 w6 w7 hf h4 hM
    have hs : SC h := hs0.fg hf
    have hp : DKc D A h := hp0.fgx hf (fun a j z => by unfold FfP FtL2; omega)
    have o1 := ho.2.2.1.1
    have hj2 : j < D.2.2.1.1 := by omega
    have hj : j < D.2.2.1.1 := hj2
    have ei : h.1 (A.1 i) 8 = nI (cN D.2.2.1 i 8) := ((hp.2.2.2.2.1.2 i hi).2.2.2.1 8 (by decide) (by decide)).trans ((ho.2.2.1.2 i hi).1 8 (by decide) (by decide) (by decide) (by decide))
    have ej : h.1 (A.1 j) 8 = nI (cN D.2.2.1 j 8) := ((hp.2.2.2.2.1.2 j hj).2.2.2.1 8 (by decide) (by decide)).trans ((ho.2.2.1.2 j hj).1 8 (by decide) (by decide) (by decide) (by decide))
    have bi : cN D.2.2.1 i 8 ≤ 3 := (ho.2.2.1.2 i hi).2.2.2.2.2.2.2.2.2.1
    have bj : cN D.2.2.1 j 8 ≤ 3 := (ho.2.2.1.2 j hj).2.2.2.2.2.2.2.2.2.1
    refine kx_iload (pc := 37) (kx_dd d_Te_findLikes 19 rfl) rfl ?_
    refine kx_iload_n (pc := 39) (kx_dd d_Te_findLikes 20 rfl) rfl rfl ?_
    refine kx_icmp_gt (pc := 40) (tgt := 141) (kx_dd d_Te_findLikes 21 rfl) rfl (fun c40 => ?_) (fun c40 => ?_)
    · exact absurd c40 (nI_nlt (by omega) (by omega))
    · refine kx_aload_n (pc := 43) (kx_dd d_Te_findLikes 22 rfl) rfl rfl ?_
      refine kx_getR (pc := 44) (b := 40) fl_Te_48 (hs.k 39 rfl) rfl (hs.r 43 rfl) (kx_dd d_Te_findLikes 23 rfl) ?_
      refine kx_iload_n (pc := 47) (kx_dd d_Te_findLikes 24 rfl) rfl rfl ?_
      refine kx_invV (pc := 48) (a := 40) (as := [_]) (kx_dd d_Te_findLikes 25 rfl) ⟨lk_Te_68, wi_AL_get, we_AL_get⟩ w_AL_get (hs.k 40 rfl) rfl rfl rfl rfl (Nat.le_of_ble_eq_true rfl) (x_AL_get (d := d) 40 D.2.2.1.1 A.2.2.1 A.2.2.2.1 A.1 (DKc.k40 hs).1 hp.2.2.1 i hi) (Nat.le_refl _) ⟨Nat.le_refl _, Nat.le_refl _⟩ (fun v h' hq => ?_)
      obtain ⟨rfl, he⟩ := hq
      rw [he]
      clear he
      refine kx_cast (pc := 51) (ci := 1) (congrArg Prod.fst (hp.2.2.2.2.1.2 i hi).2.2.1) rfl cl_Te_72 (kx_dd d_Te_findLikes 26 rfl) ?_
      refine kx_astore_e (pc := 54) (lv' := [_, _, _, _, _, _, _, _]) (kx_dd d_Te_findLikes 27 rfl) (Nat.le_of_ble_eq_true rfl) rfl ?_
      refine kx_aload_n (pc := 56) (kx_dd d_Te_findLikes 28 rfl) rfl rfl ?_
      refine kx_getR (pc := 57) (b := 40) fl_Te_48 (hs.k 39 rfl) rfl (hs.r 43 rfl) (kx_dd d_Te_findLikes 29 rfl) ?_
      refine kx_iload (pc := 60) (kx_dd d_Te_findLikes 30 rfl) rfl ?_
      refine kx_invV (pc := 62) (a := 40) (as := [_]) (kx_dd d_Te_findLikes 31 rfl) ⟨lk_Te_68, wi_AL_get, we_AL_get⟩ w_AL_get (hs.k 40 rfl) rfl rfl rfl rfl (Nat.le_of_ble_eq_true rfl) (x_AL_get (d := d) 40 D.2.2.1.1 A.2.2.1 A.2.2.2.1 A.1 (DKc.k40 hs).1 hp.2.2.1 j hj) (Nat.le_refl _) ⟨Nat.le_refl _, Nat.le_refl _⟩ (fun v h' hq => ?_)
      obtain ⟨rfl, he⟩ := hq
      rw [he]
      clear he
      refine kx_cast (pc := 65) (ci := 1) (congrArg Prod.fst (hp.2.2.2.2.1.2 j hj).2.2.1) rfl cl_Te_72 (kx_dd d_Te_findLikes 32 rfl) ?_
      refine kx_astore_e (pc := 68) (lv' := [_, _, _, _, _, _, _, _]) (kx_dd d_Te_findLikes 33 rfl) (Nat.le_of_ble_eq_true rfl) rfl ?_
      refine kx_aload (pc := 70) (kx_dd d_Te_findLikes 34 rfl) rfl ?_
      refine kx_getI (pc := 72) fl_Te_74 (congrArg Prod.fst (hp.2.2.2.2.1.2 i hi).2.2.1) rfl (kx_dd d_Te_findLikes 35 rfl) ?_
      refine kx_if_ne (pc := 75) (tgt := 90) (kx_dd d_Te_findLikes 36 rfl) rfl (fun c75 => ?_) (fun c75 => ?_)
      · refine kx_iconst (pc := 90) (v := 0) (kx_dd d_Te_findLikes 42 rfl) rfl ?_
        refine kx_istore_e (pc := 91) (lv' := [_, _, _, _, _, _, _, _]) (kx_dd d_Te_findLikes 43 rfl) (Nat.le_of_ble_eq_true rfl) rfl ?_
        refine kx_iload (pc := 93) (kx_dd d_Te_findLikes 44 rfl) rfl ?_
        refine kx_if_eq (pc := 95) (tgt := 135) (kx_dd d_Te_findLikes 45 rfl) rfl (fun _ => ?_) (fun c95 => absurd c95 (by decide))
        refine kx_iinc_e (pc := 135) (v := nI (j + 1)) (lv' := [_, _, _, _, _, _, _, _]) (kx_dd d_Te_findLikes 71 rfl) rfl (Nat.le_of_ble_eq_true rfl) (nI_1 j) rfl ?_
        refine kx_goto (pc := 138) (tgt := 37) (kx_dd d_Te_findLikes 72 rfl) rfl ?_
        rw [ei, nI_z (by omega)] at c75
        exact ih (j + 1) (by omega) _ _ _ _ hf h4 (fun a ha => by rw [hM a ha, seM_no (fun z => c75 z.1)])
      · refine kx_aload (pc := 78) (kx_dd d_Te_findLikes 37 rfl) rfl ?_
        refine kx_getI (pc := 80) fl_Te_74 (congrArg Prod.fst (hp.2.2.2.2.1.2 j hj).2.2.1) rfl (kx_dd d_Te_findLikes 38 rfl) ?_
        refine kx_if_ne (pc := 83) (tgt := 90) (kx_dd d_Te_findLikes 39 rfl) rfl (fun c83 => ?_) (fun c83 => ?_)
        · refine kx_iconst (pc := 90) (v := 0) (kx_dd d_Te_findLikes 42 rfl) rfl ?_
          refine kx_istore_e (pc := 91) (lv' := [_, _, _, _, _, _, _, _]) (kx_dd d_Te_findLikes 43 rfl) (Nat.le_of_ble_eq_true rfl) rfl ?_
          refine kx_iload (pc := 93) (kx_dd d_Te_findLikes 44 rfl) rfl ?_
          refine kx_if_eq (pc := 95) (tgt := 135) (kx_dd d_Te_findLikes 45 rfl) rfl (fun _ => ?_) (fun c95 => absurd c95 (by decide))
          refine kx_iinc_e (pc := 135) (v := nI (j + 1)) (lv' := [_, _, _, _, _, _, _, _]) (kx_dd d_Te_findLikes 71 rfl) rfl (Nat.le_of_ble_eq_true rfl) (nI_1 j) rfl ?_
          refine kx_goto (pc := 138) (tgt := 37) (kx_dd d_Te_findLikes 72 rfl) rfl ?_
          rw [ej, nI_z (by omega)] at c83
          exact ih (j + 1) (by omega) _ _ _ _ hf h4 (fun a ha => by rw [hM a ha, seM_no (fun z => c83 z.2.1)])
        · refine kx_iconst (pc := 86) (v := 1) (kx_dd d_Te_findLikes 40 rfl) rfl ?_
          refine kx_goto (pc := 87) (tgt := 91) (kx_dd d_Te_findLikes 41 rfl) rfl ?_
          refine kx_istore_e (pc := 91) (lv' := [_, _, _, _, _, _, _, _]) (kx_dd d_Te_findLikes 43 rfl) (Nat.le_of_ble_eq_true rfl) rfl ?_
          refine kx_iload (pc := 93) (kx_dd d_Te_findLikes 44 rfl) rfl ?_
          refine kx_if_eq (pc := 95) (tgt := 135) (kx_dd d_Te_findLikes 45 rfl) rfl (fun c95 => absurd c95 (by decide)) (fun _ => ?_)
          refine kx_aload (pc := 98) (kx_dd d_Te_findLikes 46 rfl) rfl ?_
          refine kx_aload (pc := 100) (kx_dd d_Te_findLikes 47 rfl) rfl ?_
          refine kx_iload_n (pc := 102) (kx_dd d_Te_findLikes 48 rfl) rfl rfl ?_
          refine kx_invV (pc := 103) (a := (A.1 i)) (as := [_, _]) (kx_dd d_Te_findLikes 49 rfl) ⟨lk_Te_77, wi_Cl_isLike, we_Cl_isLike⟩ w_Cl_isLike (congrArg Prod.fst (hp.2.2.2.2.1.2 i hi).2.2.1) rfl rfl rfl rfl (Nat.le_of_ble_eq_true rfl) (x_Cl_isLike (d := d + 1) hs D A ho hp i hi j hj q hq0) (Nat.le_refl _) ⟨Nat.le_refl _, Nat.le_refl _⟩ (fun v h' hq => ?_)
          obtain ⟨rfl, he⟩ := hq
          rw [he]
          clear he
          refine kx_if_eq (pc := 106) (tgt := 135) (kx_dd d_Te_findLikes 50 rfl) rfl (fun c106 => ?_) (fun c106 => ?_)
          · refine kx_iinc_e (pc := 135) (v := nI (j + 1)) (lv' := [_, _, _, _, _, _, _, _]) (kx_dd d_Te_findLikes 71 rfl) rfl (Nat.le_of_ble_eq_true rfl) (nI_1 j) rfl ?_
            refine kx_goto (pc := 138) (tgt := 37) (kx_dd d_Te_findLikes 72 rfl) rfl ?_
            exact ih (j + 1) (by omega) _ _ _ _ hf h4 (fun a ha => by rw [hM a ha, seM_no (fun z => bP_0.mp c106 z.2.2)])
          · refine kx_aload_n (pc := 109) (kx_dd d_Te_findLikes 51 rfl) rfl rfl ?_
            refine kx_getR (pc := 110) (b := 43) fl_Te_11 (hs.k 42 rfl) rfl (hs.r 45 rfl) (kx_dd d_Te_findLikes 52 rfl) ?_
            refine kx_iload_n (pc := 113) (kx_dd d_Te_findLikes 53 rfl) rfl rfl ?_
            refine kx_dup2 (pc := 114) (kx_dd d_Te_findLikes 54 rfl) rfl rfl ?_
            refine kx_laldn (pc := 115) i (hs.t 43 rfl) rfl (by omega) (by decide) (kx_dd d_Te_findLikes 55 rfl) ?_
            rw [hM i hi]
            refine kx_lconst (pc := 116) (v := 1) (kx_dd d_Te_findLikes 56 rfl) rfl ?_
            refine kx_iload (pc := 117) (kx_dd d_Te_findLikes 57 rfl) rfl ?_
            refine kx_lshl (pc := 119) (kx_dd d_Te_findLikes 58 rfl) ?_
            rw [lN_pow (by omega)]
            refine kx_lor (pc := 120) (kx_dd d_Te_findLikes 59 rfl) ?_
            rw [lN_or]
            refine kx_lastn (pc := 121) i (hs.t 43 rfl) (by decide) rfl (by omega) (by decide) (kx_dd d_Te_findLikes 60 rfl) ?_
            refine kx_aload_n (pc := 122) (kx_dd d_Te_findLikes 61 rfl) rfl rfl ?_
            refine kx_getR (pc := 123) (b := 43) fl_Te_11 (hs.k 42 rfl) rfl (hs.r 45 rfl) (kx_dd d_Te_findLikes 62 rfl) ?_
            refine kx_iload (pc := 126) (kx_dd d_Te_findLikes 63 rfl) rfl ?_
            refine kx_dup2 (pc := 128) (kx_dd d_Te_findLikes 64 rfl) rfl rfl ?_
            refine kx_laldn (pc := 129) j (hs.t 43 rfl) rfl (by omega) (by decide) (kx_dd d_Te_findLikes 65 rfl) ?_
            have e2 : (kx_setL h 43 i (lN (seM D q i j i ||| 2 ^ j))).2.1 43 j = lN (if j = i then seM D q i j i ||| 2 ^ j else seM D q i j j) := by
              by_cases e : j = i
              · rw [if_pos e, e, setL_at]
              · rw [if_neg e, setL_ne (Or.inr e)]; exact hM j hj
            rw [e2]
            refine kx_lconst (pc := 130) (v := 1) (kx_dd d_Te_findLikes 66 rfl) rfl ?_
            refine kx_iload_n (pc := 131) (kx_dd d_Te_findLikes 67 rfl) rfl rfl ?_
            refine kx_lshl (pc := 132) (kx_dd d_Te_findLikes 68 rfl) ?_
            rw [lN_pow (by omega)]
            refine kx_lor (pc := 133) (kx_dd d_Te_findLikes 69 rfl) ?_
            rw [lN_or]
            refine kx_lastn (pc := 134) j (hs.t 43 rfl) (by decide) rfl (by omega) (by decide) (kx_dd d_Te_findLikes 70 rfl) ?_
            refine kx_iinc_e (pc := 135) (v := nI (j + 1)) (lv' := [_, _, _, _, _, _, _, _]) (kx_dd d_Te_findLikes 71 rfl) rfl (Nat.le_of_ble_eq_true rfl) (nI_1 j) rfl ?_
            refine kx_goto (pc := 138) (tgt := 37) (kx_dd d_Te_findLikes 72 rfl) rfl ?_
            rw [ei, nI_z (by omega)] at c75
            rw [ej, nI_z (by omega)] at c83
            refine ih (j + 1) (by omega) _ _ _ _ ((hf.tr (kx_Fg.setL rfl)).tr (kx_Fg.setL rfl)) h4 (fun a ha => ?_)
            rw [seM_yes hi (by omega) ⟨c75, c83, (bP_ti _).mp c106⟩]
            by_cases e1 : a = j
            · rw [if_pos e1, e1, setL_at]
            · rw [if_neg e1, setL_ne (Or.inr e1)]
              by_cases e2 : a = i
              · rw [if_pos e2, e2, setL_at]
              · rw [if_neg e2, setL_ne (Or.inr e2)]; exact hM a ha
theorem x_fl_out {l : Launch} {g : kx_G} {d : Nat} (h0 : kx_Mem) (hs0 : SC h0) (D : DK) (A : DA) (ho : DKok D) (hp0 : DKc D A h0) (q : Nat) (hq0 : q < 2 ^ 30) : ∀ f i, i + f = D.2.2.1.1 → ∀ h w4 w5 w6 w7, kx_Fg FfP FtL2 h0 h → h.1 42 4 = nI D.2.2.1.1 → LKp D (seM D q i 0) h → kx_X (l, g, m_Te_findLikes, d + 3, 0, 0, (fun v h' => v = none ∧ kx_Fg FfP FtL2 h0 h' ∧ h'.1 42 4 = nI D.2.2.1.1 ∧ LKp D (fun a => lkC D q a) h')) 0 0 26 [some (.ref 42), some (.ref 39), some (.int (nI q)), some (.int (nI i)), w4, w5, w6, w7] [] h := by
  intro f
  induction f with
  | zero =>
    intro i hi h w4 w5 w6 w7 hf h4 hM
    have e : i = D.2.2.1.1 := by omega
    subst e
    have hs : SC h := hs0.fg hf
    have hp : DKc D A h := hp0.fgx hf (fun a j z => by unfold FfP FtL2; omega)
    have o1 := ho.2.2.1.1
    refine kx_iload_n (pc := 26) (kx_dd d_Te_findLikes 13 rfl) rfl rfl ?_
    refine kx_aload_n (pc := 27) (kx_dd d_Te_findLikes 14 rfl) rfl rfl ?_
    refine kx_getI (pc := 28) fl_Te_32 (hs.k 42 rfl) rfl (kx_dd d_Te_findLikes 15 rfl) ?_
    refine kx_icmp_ge (pc := 31) (tgt := 147) (kx_dd d_Te_findLikes 16 rfl) rfl (fun c31 => ?_) (fun c31 => ?_)
    · refine kx_vret (pc := 147) rfl (kx_dd d_Te_findLikes 75 rfl) (Nat.le_refl _) (Nat.le_refl _) ?_
      exact ⟨rfl, hf, h4, fun a ha => by rw [hM a ha, seM_end ha]⟩
    · exact absurd (by rw [h4]; exact Int32.le_refl _) c31
  | succ f ih =>
    intro i hi h w4 w5 w6 w7 hf h4 hM
    have hs : SC h := hs0.fg hf
    have hp : DKc D A h := hp0.fgx hf (fun a j z => by unfold FfP FtL2; omega)
    have o1 := ho.2.2.1.1
    refine kx_iload_n (pc := 26) (kx_dd d_Te_findLikes 13 rfl) rfl rfl ?_
    refine kx_aload_n (pc := 27) (kx_dd d_Te_findLikes 14 rfl) rfl rfl ?_
    refine kx_getI (pc := 28) fl_Te_32 (hs.k 42 rfl) rfl (kx_dd d_Te_findLikes 15 rfl) ?_
    refine kx_icmp_ge (pc := 31) (tgt := 147) (kx_dd d_Te_findLikes 16 rfl) rfl (fun c31 => ?_) (fun c31 => ?_)
    · exact absurd c31 (by rw [h4]; exact nI_ge (by omega) (by omega))
    · refine kx_iconst (pc := 34) (v := 0) (kx_dd d_Te_findLikes 17 rfl) rfl ?_
      refine kx_istore_e (pc := 35) (lv' := [_, _, _, _, _, _, _, _]) (kx_dd d_Te_findLikes 18 rfl) (Nat.le_of_ble_eq_true rfl) rfl ?_
      exact x_fl_in h0 hs0 D A ho hp0 q hq0 _ i (by omega) (fun h w4 w5 w6 w7 a1 a2 a3 => ih (i + 1) (by omega) h w4 w5 w6 w7 a1 a2 a3) (i + 1) 0 (by omega) h _ _ _ hf h4 hM
theorem x_Te_findLikes {l : Launch} {g : kx_G} {d : Nat} {h : kx_Mem} (hs : SC h) (D : DK) (A : DA) (ho : DKok D) (hp : DKc D A h) (q : Nat) (hq0 : q < 2 ^ 30) : kx_Sp l g m_Te_findLikes [.ref 42, .ref 39, .int (nI q)] h (d + 3) 0 0 (fun v h' => v = none ∧ kx_Fg FfP FtL2 h h' ∧ h'.1 42 4 = nI D.2.2.1.1 ∧ LKp D (fun a => lkC D q a) h') := by
  have o1 := ho.2.2.1.1
  refine kx_enter_e (lv := [_, _, _, _, _, _, _, _]) (by decide +kernel) (Nat.le_of_ble_eq_true rfl) rfl ?_
  refine kx_aload_n (pc := 0) (kx_dd d_Te_findLikes 0 rfl) rfl rfl ?_
  refine kx_aload_n (pc := 1) (kx_dd d_Te_findLikes 1 rfl) rfl rfl ?_
  refine kx_getR (pc := 2) (b := 40) fl_Te_48 (hs.k 39 rfl) rfl (hs.r 43 rfl) (kx_dd d_Te_findLikes 2 rfl) ?_
  refine kx_invV (pc := 5) (a := 40) (as := []) (kx_dd d_Te_findLikes 3 rfl) ⟨lk_Te_51, wi_AL_size, we_AL_size⟩ w_AL_size (hs.k 40 rfl) rfl rfl rfl rfl (Nat.le_of_ble_eq_true rfl) (x_AL_size (d := d + 2) 40 D.2.2.1.1 A.2.2.1 A.2.2.2.1 A.1 (DKc.k40 hs).1 hp.2.2.1) (Nat.le_refl _) ⟨Nat.le_refl _, Nat.le_refl _⟩ (fun v h' hq => ?_)
  obtain ⟨rfl, he⟩ := hq
  rw [he]
  clear he
  refine kx_bipush (pc := 8) (v := 60) (kx_dd d_Te_findLikes 4 rfl) rfl ?_
  refine kx_mmin (pc := 10) mk_Te_56 (kx_dd d_Te_findLikes 5 rfl) (Nat.le_of_ble_eq_true rfl) (Nat.le_of_ble_eq_true rfl) (Nat.le_refl _) (Nat.le_refl _) ?_
  rw [show (60 : Int32) = nI 60 from rfl, minI (by omega) (by omega), show (if 60 < D.2.2.1.1 then 60 else D.2.2.1.1) = D.2.2.1.1 from if_neg (by omega)]
  refine kx_putI (pc := 13) fl_Te_32 (hs.k 42 rfl) (by decide) rfl rfl (kx_dd d_Te_findLikes 6 rfl) ?_
  refine kx_aload_n (pc := 16) (kx_dd d_Te_findLikes 7 rfl) rfl rfl ?_
  refine kx_getR (pc := 17) (b := 43) fl_Te_11 (hs.k 42 rfl) rfl (hs.r 45 rfl) (kx_dd d_Te_findLikes 8 rfl) ?_
  refine kx_lconst (pc := 20) (v := 0) (kx_dd d_Te_findLikes 9 rfl) rfl ?_
  refine kx_invS (pc := 21) (as := [_, _]) (kx_dd d_Te_findLikes 10 rfl) ⟨lk_Te_62, wt_Ar_fill⟩ w_Ar_fill rfl rfl (Nat.le_of_ble_eq_true rfl) (x_Ar_fill (h := kx_setI h 42 4 (nI D.2.2.1.1)) (d := d + 2) 43 (by decide) (hs.t 43 rfl) 0) (Nat.le_refl _) ⟨Nat.le_refl _, Nat.le_refl _⟩ (fun v h' hq => ?_)
  revert h'
  intro h2 hq
  obtain ⟨rfl, hf2, hz2⟩ := hq
  have hf3 : kx_Fg FfP FtL2 h h2 := (kx_Fg.setI (by unfold FfP; omega)).tr (hf2.mono (fun _ _ z => z.elim) (fun a j z => z))
  have h42 : h2.1 42 4 = nI D.2.2.1.1 := by rw [hf2.1 42 4 id]; exact setI_at
  refine kx_iconst (pc := 24) (v := 0) (kx_dd d_Te_findLikes 11 rfl) rfl ?_
  refine kx_istore_ne (pc := 25) (lv' := [_, _, _, _, _, _, _, _]) (kx_dd d_Te_findLikes 12 rfl) rfl (Nat.le_of_ble_eq_true rfl) rfl ?_
  exact x_fl_out h hs D A ho hp q hq0 D.2.2.1.1 0 (by omega) h2 _ _ _ _ hf3 h42 (fun a ha => by rw [seM_0]; exact hz2 a (by omega))
