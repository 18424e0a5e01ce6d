/-! the fund: pay, wave -/
/-- claims and people, coin, purses -/
abbrev FS3 : Type := DK × Nat × (Nat → Int32)
noncomputable def payF (td : Nat) (S : FS3) (c m : Nat) : FS3 := (setCf S.1 c 11 (S.1.2.2.1.2.1 c 11 + nI m), S.2.1 - m, handF S.1.1 td 3 (cN S.1.2.2.1 c 0) m S.2.2)
noncomputable def payM (td : Nat) (S : FS3) (c m : Nat) : FS3 := if 0 < m then payF td S c m else S
/-- what is paid stays within what came -/
def FnI (S : FS3) (M : Nat) : Prop := M ≤ 999999999 ∧ S.2.1 ≤ M ∧ ∀ c, c < S.1.2.2.1.1 → S.1.2.2.1.2.1 c 11 = nI (cN S.1.2.2.1 c 11) ∧ cN S.1.2.2.1 c 11 + S.2.1 ≤ M
def FSc3 (S : FS3) (A : DA) (h : kx_Mem) : Prop := DKc S.1 A h ∧ h.1 45 3 = nI S.2.1 ∧ h.1 16 = S.2.2
def FSm3 (S : FS3) (nw : Nat) (T : Nat → Nat) (h : kx_Mem) : Prop := DKm S.1 nw T h ∧ h.1 84 88 = nI S.2.1 ∧ h.1 116 = S.2.2
def FpC (a j : Nat) : Prop := a = 16 ∨ (23 ≤ a ∧ a ≤ 29) ∨ (a = 45 ∧ j = 3) ∨ (154 ≤ a ∧ j = 11)
def FpM (n a j : Nat) : Prop := a = 116 ∨ a = 149 ∨ a = 150 ∨ (a = 133 ∧ j < n) ∨ (a = 84 ∧ j = 88)
theorem pay_cN {td c m c' j : Nat} {S : FS3} (hj : j ≠ 11) : cN (payF td S c m).1.2.2.1 c' j = cN S.1.2.2.1 c' j := cN_ne hj
theorem payM_cN {td c m c' j : Nat} {S : FS3} (hj : j ≠ 11) : cN (payM td S c m).1.2.2.1 c' j = cN S.1.2.2.1 c' j := by
  unfold payM
  split
  · exact pay_cN hj
  · rfl
theorem payM_n {td c m : Nat} {S : FS3} : (payM td S c m).1.2.2.1.1 = S.1.2.2.1.1 ∧ (payM td S c m).1.1 = S.1.1 ∧ (payM td S c m).1.2.1 = S.1.2.1 := by
  unfold payM
  split <;> exact ⟨rfl, rfl, rfl⟩
theorem payM_K {td c m : Nat} {S : FS3} : (payM td S c m).2.1 = S.2.1 - m := by
  unfold payM
  split
  · rfl
  · omega
theorem payM_11 {td c m c' : Nat} {S : FS3} (hc : c' ≠ c) : (payM td S c m).1.2.2.1.2.1 c' 11 = S.1.2.2.1.2.1 c' 11 := by
  unfold payM
  split
  · show setF _ _ _ _ _ _ = _
    unfold setF
    rw [if_neg (fun z => hc z.1)]
  · rfl
theorem payM_ok {td c m : Nat} {S : FS3} (ho : DKok S.1) : DKok (payM td S c m).1 := by
  unfold payM
  split
  · exact ho.set (by decide) (Or.inl (Or.inl rfl))
  · exact ho
theorem payM_I {td c m M : Nat} {S : FS3} (hI : FnI S M) (hc : c < S.1.2.2.1.1) (hm : m ≤ S.2.1) : FnI (payM td S c m) M := by
  obtain ⟨h1, h2, h3⟩ := hI
  refine ⟨h1, by rw [payM_K]; omega, fun c' hc' => ?_⟩
  rw [payM_n.1] at hc'
  have h4 := h3 c' hc'
  rw [payM_K]
  by_cases e : c' = c
  · subst e
    by_cases e0 : 0 < m
    · have e1 : (payM td S c' m).1.2.2.1.2.1 c' 11 = nI (cN S.1.2.2.1 c' 11 + m) := by
        unfold payM
        rw [if_pos e0]
        show setF _ _ _ _ _ _ = _
        unfold setF
        rw [if_pos ⟨rfl, rfl⟩, h4.1, nI_add]
      have e2 : cN (payM td S c' m).1.2.2.1 c' 11 = cN S.1.2.2.1 c' 11 + m := by
        unfold cN at e1 ⊢
        rw [e1, nI_clamp (by unfold cN at h4; omega)]
      rw [e2, e1]
      exact ⟨rfl, by omega⟩
    · have e1 : payM td S c' m = S := if_neg e0
      rw [e1]
      exact ⟨h4.1, by omega⟩
  · have e1 := payM_11 (td := td) (m := m) (S := S) e
    have e2 : cN (payM td S c m).1.2.2.1 c' 11 = cN S.1.2.2.1 c' 11 := by unfold cN; rw [e1]
    rw [e1, e2]
    exact ⟨h4.1, by omega⟩
def minN (x y : Nat) : Nat := if x < y then x else y
theorem minN_l {x y : Nat} : minN x y ≤ x := by unfold minN; split <;> omega
theorem minN_r {x y : Nat} : minN x y ≤ y := by unfold minN; split <;> omega
/-- the least of coin and what is due less what was paid, as an int -/
theorem payI {a q K : Nat} (ha : a < 2 ^ 30) (hq : q < 2 ^ 30) (hK : K < 2 ^ 30) : (0 < (if lN K < lN a - lN q then lN K else lN a - lN q).toInt32 ↔ 0 < minN K (a - q)) ∧ (0 < minN K (a - q) → (if lN K < lN a - lN q then lN K else lN a - lN q).toInt32 = nI (minN K (a - q))) := by
  by_cases e : q ≤ a
  · rw [lN_sub e]
    have e2 : (if lN K < lN (a - q) then lN K else lN (a - q)).toInt32 = nI (minN K (a - q)) := by
      unfold minN
      by_cases e3 : K < a - q
      · rw [if_pos ((pk_lLT (by omega) (by omega)).mpr e3), if_pos e3, lN_i]
      · rw [if_neg (fun z => e3 ((pk_lLT (by omega) (by omega)).mp z)), if_neg e3, lN_i]
    rw [e2]
    have := minN_l (x := K) (y := a - q)
    exact ⟨by rw [show (0 : Int32) = nI 0 from rfl, nI_ltI (by decide) (by omega)], fun _ => rfl⟩
  · have e0 : a - q = 0 := by omega
    have e1 : minN K (a - q) = 0 := by unfold minN; rw [e0, if_neg (by omega)]
    have hneg : nI a - nI q < 0 := pk_sneg hq (by omega)
    have e2 : (lN a - lN q).toInt = (a : Int) - q := lg_sub_small ha hq
    have e3 : ¬ lN K < lN a - lN q := by
      rw [Int64.lt_iff_toInt_lt, e2, pk_lT (by omega)]
      omega
    rw [if_neg e3, e1, Int64.toInt32_sub, lN_i, lN_i]
    exact ⟨⟨fun z => absurd (Int32.lt_trans z hneg) (by decide), fun z => absurd z (Nat.lt_irrefl 0)⟩, fun z => absurd z (Nat.lt_irrefl 0)⟩
theorem minL_c (a b : Int64) : (if a < b then a else b) = if b < a then b else a := by
  by_cases h1 : a < b
  · rw [if_pos h1, if_neg (fun z => absurd (Int64.lt_trans h1 z) (Int64.lt_irrefl))]
  · rw [if_neg h1]
    by_cases h2 : b < a
    · rw [if_pos h2]
    · rw [if_neg h2]
      exact Int64.le_antisymm (Int64.not_lt.mp h1) (Int64.not_lt.mp h2)
theorem x_Fu_pay {l : Launch} {g : kx_G} {d : Nat} {h : kx_Mem} (hs : SC h) (S : FS3) (A : DA) (ho : DKok S.1) (hS : FSc3 S A h) (td : Nat) (htd : td < 2 ^ 31) (c : Nat) (hc : c < S.1.2.2.1.1) (sm : Int64) (x : Int32) (m : Nat) (hx : (if (nI S.2.1).toInt64 < sm then (nI S.2.1).toInt64 else sm).toInt32 = x) (h0 : 0 < x ↔ 0 < m) (hxm : 0 < m → x = nI m) (hm : m ≤ S.2.1) (hK : S.2.1 ≤ 999999999) : kx_Sp l g m_Fu_pay [.ref 45, .ref (A.1 c), .long sm, .int (nI td)] h (d + 7) 0 0 (fun v h' => v = some (.int (nI m)) ∧ FSc3 (payM td S c m) A h' ∧ kx_Fc FpC h h') := by
  obtain ⟨hp, h3, h16⟩ := hS
  have hc9 : c < S.1.2.2.1.1 := hc
  have e11 : h.1 (A.1 c) 11 = S.1.2.2.1.2.1 c 11 := (hp.2.2.2.2.1.2 c hc).2.2.2.1 11 (by decide) (by decide)
  have hA := (hp.2.2.2.2.1.2 c hc).1
  have oc := ho.2.2.1.2 c hc
  have e0 : h.1 (A.1 c) 0 = nI (cN S.1.2.2.1 c 0) := ((hp.2.2.2.2.1.2 c hc).2.2.2.1 0 (by decide) (by decide)).trans (oc.1 0 (by decide) (by decide) (by decide) (by decide))
  refine kx_enter_e (lv := [_, _, _, _, _, _]) (by decide +kernel) (Nat.le_of_ble_eq_true rfl) rfl ?_
  refine kx_lload_n (pc := 0) (kx_dd d_Fu_pay 0 rfl) rfl rfl ?_
  refine kx_aload_n (pc := 1) (kx_dd d_Fu_pay 1 rfl) rfl rfl ?_
  refine kx_getI (pc := 2) fl_Fu_32 (hs.k 45 rfl) rfl (kx_dd d_Fu_pay 2 rfl) ?_
  refine kx_i2l (pc := 5) (kx_dd d_Fu_pay 3 rfl) ?_
  rw [h3]
  refine kx_mminL (pc := 6) mk_Fu_46 (kx_dd d_Fu_pay 4 rfl) (Nat.le_of_ble_eq_true rfl) (Nat.le_of_ble_eq_true rfl) (Nat.le_refl _) (Nat.le_refl _) ?_
  refine kx_l2i (pc := 9) (kx_dd d_Fu_pay 5 rfl) ?_
  rw [hx]
  refine kx_istore_e (pc := 10) (lv' := [_, _, _, _, _, _]) (kx_dd d_Fu_pay 6 rfl) (Nat.le_of_ble_eq_true rfl) rfl ?_
  refine kx_iload (pc := 12) (kx_dd d_Fu_pay 7 rfl) rfl ?_
  refine kx_if_gt (pc := 14) (tgt := 19) (kx_dd d_Fu_pay 8 rfl) rfl (fun c14 => ?_) (fun c14 => ?_)
  · have h0m := h0.mp c14
    obtain rfl := hxm h0m
    refine kx_aload_n (pc := 19) (kx_dd d_Fu_pay 11 rfl) rfl rfl ?_
    refine kx_dup (pc := 20) (kx_dd d_Fu_pay 12 rfl) rfl ?_
    refine kx_getI (pc := 21) fl_Fu_70 (congrArg Prod.fst (hp.2.2.2.2.1.2 c hc).2.2.1) rfl (kx_dd d_Fu_pay 13 rfl) ?_
    refine kx_iload (pc := 24) (kx_dd d_Fu_pay 14 rfl) rfl ?_
    refine kx_iadd (pc := 26) (kx_dd d_Fu_pay 15 rfl) ?_
    rw [e11]
    refine kx_putI (pc := 27) fl_Fu_70 (congrArg Prod.fst (hp.2.2.2.2.1.2 c hc).2.2.1) (hp.2.2.2.2.1.2 c hc).2.1 rfl rfl (kx_dd d_Fu_pay 16 rfl) ?_
    refine kx_aload_n (pc := 30) (kx_dd d_Fu_pay 17 rfl) rfl rfl ?_
    refine kx_dup (pc := 31) (kx_dd d_Fu_pay 18 rfl) rfl ?_
    refine kx_getI (pc := 32) fl_Fu_32 (hs.k 45 rfl) rfl (kx_dd d_Fu_pay 19 rfl) ?_
    rw [setI_ne (Or.inl (by omega)), h3]
    refine kx_iload (pc := 35) (kx_dd d_Fu_pay 20 rfl) rfl ?_
    refine kx_isub (pc := 37) (kx_dd d_Fu_pay 21 rfl) ?_
    rw [pk_sub hm]
    refine kx_putI (pc := 38) fl_Fu_32 (hs.k 45 rfl) (by decide) rfl rfl (kx_dd d_Fu_pay 22 rfl) ?_
    refine kx_aload_n (pc := 41) (kx_dd d_Fu_pay 23 rfl) rfl rfl ?_
    refine kx_getR (pc := 42) (b := 14) fl_Fu_20 (hs.k 45 rfl) rfl (hs.r 47 rfl) (kx_dd d_Fu_pay 24 rfl) ?_
    refine kx_aload_n (pc := 45) (kx_dd d_Fu_pay 25 rfl) rfl rfl ?_
    refine kx_getI (pc := 46) fl_Fu_77 (congrArg Prod.fst (hp.2.2.2.2.1.2 c hc).2.2.1) rfl (kx_dd d_Fu_pay 26 rfl) ?_
    rw [setI_ne (Or.inl (by omega)), setI_ne (Or.inr (by decide)), e0]
    have hp2 : DKc (setCf S.1 c 11 (S.1.2.2.1.2.1 c 11 + nI m)) A (kx_setI (kx_setI h (A.1 c) 11 (S.1.2.2.1.2.1 c 11 + nI m)) 45 3 (nI (S.2.1 - m))) := (hp.s (S.1.2.2.1.2.1 c 11 + nI m) hc).fgx (L := fun _ _ => False) (kx_Fc.g (kx_Fc.set (P := fun a j => a = 45) rfl)) (fun a j z => ⟨by omega, id⟩)
    have hf2 : kx_Fc FpC h (kx_setI (kx_setI h (A.1 c) 11 (S.1.2.2.1.2.1 c 11 + nI m)) 45 3 (nI (S.2.1 - m))) := (kx_Fc.set (by unfold FpC; omega)).tr (kx_Fc.set (by unfold FpC; omega))
    have h32 : (kx_setI (kx_setI h (A.1 c) 11 (S.1.2.2.1.2.1 c 11 + nI m)) 45 3 (nI (S.2.1 - m))).1 45 3 = nI (S.2.1 - m) := setI_at
    have h162 : (kx_setI (kx_setI h (A.1 c) 11 (S.1.2.2.1.2.1 c 11 + nI m)) 45 3 (nI (S.2.1 - m))).1 16 = S.2.2 := by funext j; rw [setI_ne (Or.inl (by decide)), setI_ne (Or.inl (by omega)), h16]
    have hs2 : SC (kx_setI (kx_setI h (A.1 c) 11 (S.1.2.2.1.2.1 c 11 + nI m)) 45 3 (nI (S.2.1 - m))) := hs
    refine kx_iload (pc := 49) (kx_dd d_Fu_pay 27 rfl) rfl ?_
    refine kx_iload (pc := 51) (kx_dd d_Fu_pay 28 rfl) rfl ?_
    refine kx_invV (pc := 53) (a := 14) (as := [_, _, _]) (kx_dd d_Fu_pay 29 rfl) ⟨lk_Fu_80, wi_Pe_receive, we_Pe_receive⟩ w_Pe_receive (hs.k 14 rfl) rfl rfl rfl rfl (Nat.le_of_ble_eq_true rfl) (x_Pe_receive (d := d) hs2 S.1.1 ho.1 hp2.1 td htd (cN S.1.2.2.1 c 0) m oc.2.1 (by omega)) (Nat.le_refl _) ⟨Nat.le_refl _, Nat.le_refl _⟩ (fun v h' hq => ?_)
    revert h'
    intro h9 hq
    obtain ⟨rfl, h169, hf9⟩ := hq
    refine kx_iload (pc := 56) (kx_dd d_Fu_pay 30 rfl) rfl ?_
    refine kx_iret (pc := 58) rfl (kx_dd d_Fu_pay 31 rfl) (Nat.le_refl _) (Nat.le_refl _) ?_
    refine ⟨rfl, ?_, hf2.tr ⟨hf9.1, fun a j hj => congrFun (hf9.2 a (fun z => hj (by unfold PH at z; unfold FpC; omega))) j⟩⟩
    rw [show payM td S c m = payF td S c m from if_pos h0m]
    refine ⟨hp2.fgx (P := fun a _ => PH 0 a) (L := fun _ _ => False) ⟨fun a j hj => congrFun (hf9.2 a hj) j, fun a j _ => by rw [hf9.1], by rw [hf9.1]⟩ (fun a j z => ⟨by unfold PH; omega, id⟩), by rw [hf9.2 45 (by unfold PH; omega)]; exact h32, ?_⟩
    rw [h169, h162]
    rfl
  · refine kx_iconst (pc := 17) (v := 0) (kx_dd d_Fu_pay 9 rfl) rfl ?_
    refine kx_iret (pc := 18) rfl (kx_dd d_Fu_pay 10 rfl) (Nat.le_refl _) (Nat.le_refl _) ?_
    have e0m : ¬ 0 < m := fun z => c14 (h0.mpr z)
    have ez : m = 0 := by omega
    subst ez
    refine ⟨rfl, ?_, kx_Fc.rf⟩
    rw [show payM td S c 0 = S from if_neg (by decide)]
    exact ⟨hp, h3, h16⟩
theorem y_pay {l : Launch} {g : kx_G} {d : Nat} {h : kx_Mem} (hm9 : SM h) (S : FS3) (nw : Nat) (T : Nat → Nat) (ho : DKok S.1) (hS : FSm3 S nw T h) (td : Nat) (htd : td < 2 ^ 31) (hck : h.1 84 36 = nI td) (c : Nat) (hc : c < S.1.2.2.1.1) (m : Nat) (hm : m ≤ S.2.1) (hK : S.2.1 ≤ 999999999) : kx_Sp l g m_Mo_pay [.ref 84, .int (nI c), .int (nI m)] h (d + 6) 0 0 (fun v h' => v = none ∧ FSm3 (payF td S c m) nw T h' ∧ kx_Fc (FpM S.1.2.2.1.1) h h') := by
  obtain ⟨hp, h3, h16⟩ := hS
  have e11 : h.1 133 c = S.1.2.2.1.2.1 c 11 := (hp.2.2.1.2 c hc).1 11 (by decide) (by decide) (by decide)
  have oc := ho.2.2.1.2 c hc
  have o1 := ho.2.2.1.1
  have e0 : h.1 122 c = nI (cN S.1.2.2.1 c 0) := ((hp.2.2.1.2 c hc).1 0 (by decide) (by decide) (by decide)).trans (oc.1 0 (by decide) (by decide) (by decide) (by decide))
  refine kx_enter_e (lv := [_, _, _]) (by decide +kernel) (Nat.le_of_ble_eq_true rfl) rfl ?_
  refine kx_aload_n (pc := 0) (kx_dd d_Mo_pay 0 rfl) rfl rfl ?_
  refine kx_getR (pc := 1) (b := 133) fl_Mo_357 (hm9.k 0 rfl) rfl (hm9.r 48 rfl) (kx_dd d_Mo_pay 1 rfl) ?_
  refine kx_iload_n (pc := 4) (kx_dd d_Mo_pay 2 rfl) rfl rfl ?_
  refine kx_dup2 (pc := 5) (kx_dd d_Mo_pay 3 rfl) rfl rfl ?_
  refine kx_ialdn (pc := 6) c (hm9.t 49 rfl) rfl (by omega) (by decide) (kx_dd d_Mo_pay 4 rfl) ?_
  rw [e11]
  refine kx_iload_n (pc := 7) (kx_dd d_Mo_pay 5 rfl) rfl rfl ?_
  refine kx_iadd (pc := 8) (kx_dd d_Mo_pay 6 rfl) ?_
  refine kx_iastn (pc := 9) c (hm9.t 49 rfl) (by decide) rfl (by omega) (by decide) (kx_dd d_Mo_pay 7 rfl) ?_
  refine kx_aload_n (pc := 10) (kx_dd d_Mo_pay 8 rfl) rfl rfl ?_
  refine kx_dup (pc := 11) (kx_dd d_Mo_pay 9 rfl) rfl ?_
  refine kx_getI (pc := 12) fl_Mo_606 (hm9.k 0 rfl) rfl (kx_dd d_Mo_pay 10 rfl) ?_
  rw [setI_ne (Or.inl (by decide)), h3]
  refine kx_iload_n (pc := 15) (kx_dd d_Mo_pay 11 rfl) rfl rfl ?_
  refine kx_isub (pc := 16) (kx_dd d_Mo_pay 12 rfl) ?_
  rw [pk_sub hm]
  refine kx_putI (pc := 17) fl_Mo_606 (hm9.k 0 rfl) (by decide) rfl rfl (kx_dd d_Mo_pay 13 rfl) ?_
  refine kx_aload_n (pc := 20) (kx_dd d_Mo_pay 14 rfl) rfl rfl ?_
  refine kx_aload_n (pc := 21) (kx_dd d_Mo_pay 15 rfl) rfl rfl ?_
  refine kx_getR (pc := 22) (b := 122) fl_Mo_324 (hm9.k 0 rfl) rfl (hm9.r 37 rfl) (kx_dd d_Mo_pay 16 rfl) ?_
  refine kx_iload_n (pc := 25) (kx_dd d_Mo_pay 17 rfl) rfl rfl ?_
  refine kx_ialdn (pc := 26) c (hm9.t 38 rfl) rfl (by omega) (by decide) (kx_dd d_Mo_pay 18 rfl) ?_
  rw [setI_ne (Or.inl (by decide)), setI_ne (Or.inl (by decide)), e0]
  have hp2 : DKm (setCf S.1 c 11 (S.1.2.2.1.2.1 c 11 + nI m)) nw T (kx_setI (kx_setI h 133 c (S.1.2.2.1.2.1 c 11 + nI m)) 84 88 (nI (S.2.1 - m))) := (hp.set (j := 11) (v := S.1.2.2.1.2.1 c 11 + nI m) (by decide) (by decide)).fx (P := fun a j => a = 84 ∧ j = 88) (kx_Fc.set (P := fun a j => a = 84 ∧ j = 88) ⟨rfl, rfl⟩).2 (fun a j z => by omega)
  have hf2 : kx_Fc (FpM S.1.2.2.1.1) h (kx_setI (kx_setI h 133 c (S.1.2.2.1.2.1 c 11 + nI m)) 84 88 (nI (S.2.1 - m))) := (kx_Fc.set (by unfold FpM; omega)).tr (kx_Fc.set (by unfold FpM; omega))
  have h32 : (kx_setI (kx_setI h 133 c (S.1.2.2.1.2.1 c 11 + nI m)) 84 88 (nI (S.2.1 - m))).1 84 88 = nI (S.2.1 - m) := setI_at
  have h162 : (kx_setI (kx_setI h 133 c (S.1.2.2.1.2.1 c 11 + nI m)) 84 88 (nI (S.2.1 - m))).1 116 = S.2.2 := by funext j; rw [setI_ne (Or.inl (by decide)), setI_ne (Or.inl (by decide)), h16]
  have hm2 : SM (kx_setI (kx_setI h 133 c (S.1.2.2.1.2.1 c 11 + nI m)) 84 88 (nI (S.2.1 - m))) := hm9
  have hck2 : (kx_setI (kx_setI h 133 c (S.1.2.2.1.2.1 c 11 + nI m)) 84 88 (nI (S.2.1 - m))).1 84 36 = nI td := by rw [setI_ne (Or.inr (by decide)), setI_ne (Or.inl (by decide))]; exact hck
  refine kx_iload_n (pc := 27) (kx_dd d_Mo_pay 19 rfl) rfl rfl ?_
  refine kx_iconst (pc := 28) (v := 0) (kx_dd d_Mo_pay 20 rfl) rfl ?_
  refine kx_invV (pc := 29) (a := 84) (as := [_, _, _]) (kx_dd d_Mo_pay 21 rfl) ⟨lk_Mo_612, wi_Mo_give, we_Mo_give⟩ w_Mo_give (hm9.k 0 rfl) rfl rfl rfl rfl (Nat.le_of_ble_eq_true rfl) (y_give (d := d) S.1.1 ho.1 td htd 3 0 rfl _ hm2 hp2.1 hck2 (cN S.1.2.2.1 c 0) m oc.2.1 (by omega)) (Nat.le_refl _) ⟨Nat.le_refl _, Nat.le_refl _⟩ (fun v h' hq => ?_)
  revert h'
  intro h9 hq
  obtain ⟨rfl, h169, hf9⟩ := hq
  refine kx_vret (pc := 32) rfl (kx_dd d_Mo_pay 22 rfl) (Nat.le_refl _) (Nat.le_refl _) ?_
  refine ⟨rfl, ⟨hp2.fx (P := fun a _ => a = 116 ∨ a = 149 ∨ a = 150) (fun a j hj => congrFun (hf9.2.1 a (fun z => hj (Or.inl z)) (fun z => hj (Or.inr (Or.inl z))) (fun z => hj (Or.inr (Or.inr z)))) j) (fun a j z => by omega), by rw [hf9.2.1 84 (by decide) (by decide) (by decide)]; exact h32, by rw [h169, h162]; rfl⟩, hf2.tr ⟨hf9.1, fun a j hj => congrFun (hf9.2.1 a (fun z => hj (by unfold FpM; omega)) (fun z => hj (by unfold FpM; omega)) (fun z => hj (by unfold FpM; omega))) j⟩⟩
