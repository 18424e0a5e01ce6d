/-! the lists of the class: add -/
theorem sh1 : ∀ c, c < 1001 → (nI c >>> ((1 : Int32) &&& 31)) = nI (c / 2) := by decide +kernel
theorem kn_C : Cond.castable "TreatyClaims$Claim" "java/lang/Object" ∈ kx_nw := kx_nin 2214 (by decide +kernel) (by decide +kernel)
theorem kn_P : Cond.castable "TreatyClaims$Paper" "java/lang/Object" ∈ kx_nw := kx_nin 2215 (by decide +kernel) (by decide +kernel)
theorem x_AS_newLength {l : Launch} {g : kx_G} {d : Nat} {h : kx_Mem} (c : Nat) (h10 : 10 ≤ c) (hc : c ≤ 1000) : kx_Sp l g m_AS_newLength [.int (nI c), .int (nI 1), .int (nI (c / 2))] h (d + 1) 0 0 (fun v h' => v = some (.int (nI (c + c / 2))) ∧ h' = h) := by
  refine kx_enter_e (lv := [_, _, _, _]) (by decide +kernel) (Nat.le_of_ble_eq_true rfl) rfl ?_
  refine kx_iload_n (pc := 0) (kx_dd d_AS_newLength 0 rfl) rfl rfl ?_
  refine kx_iload_n (pc := 1) (kx_dd d_AS_newLength 1 rfl) rfl rfl ?_
  refine kx_iload_n (pc := 2) (kx_dd d_AS_newLength 2 rfl) rfl rfl ?_
  refine kx_mmax (pc := 3) mk_AS_194 (kx_dd d_AS_newLength 3 rfl) (Nat.le_of_ble_eq_true rfl) (Nat.le_of_ble_eq_true rfl) (Nat.le_refl _) (Nat.le_refl _) ?_
  rw [if_pos (nI_lt (by omega) (by omega))]
  refine kx_iadd (pc := 6) (kx_dd d_AS_newLength 4 rfl) ?_
  rw [nI_add]
  refine kx_istore_ne (pc := 7) (lv' := [_, _, _, _]) (kx_dd d_AS_newLength 5 rfl) rfl (Nat.le_of_ble_eq_true rfl) rfl ?_
  refine kx_iconst (pc := 8) (v := 0) (kx_dd d_AS_newLength 6 rfl) rfl ?_
  refine kx_iload_n (pc := 9) (kx_dd d_AS_newLength 7 rfl) rfl rfl ?_
  refine kx_icmp_ge (pc := 10) (tgt := 21) (kx_dd d_AS_newLength 8 rfl) rfl (fun c10 => ?_) (fun c10 => ?_)
  · exact absurd c10 (nI_ge (a := 0) (by omega) (by omega))
  · refine kx_iload_n (pc := 13) (kx_dd d_AS_newLength 9 rfl) rfl rfl ?_
    refine kx_ldc (pc := 14) ki_AS_200 (kx_dd d_AS_newLength 10 rfl) ?_
    refine kx_icmp_gt (pc := 16) (tgt := 21) (kx_dd d_AS_newLength 11 rfl) rfl (fun c16 => ?_) (fun c16 => ?_)
    · exact absurd c16 (fun z => absurd (show (2147483639 : Int32) < nI (c + c / 2) from z) (Int32.not_lt.mpr (Int32.le_of_lt (nI_lt (b := 2147483639) (by omega) (by decide)))))
    · refine kx_iload_n (pc := 19) (kx_dd d_AS_newLength 12 rfl) rfl rfl ?_
      refine kx_iret (pc := 20) rfl (kx_dd d_AS_newLength 13 rfl) (Nat.le_refl _) (Nat.le_refl _) ?_
      exact ⟨rfl, rfl⟩
theorem x_Ar_copyOf1 {l : Launch} {g : kx_G} {d : Nat} {h : kx_Mem} (a0 n0 n1 ci : Nat) {r : vw_C} (hk0 : h.2.2.2.1 a0 = (54, n0)) (hne : a0 ≠ h.2.2.2.2) (hle : n0 ≤ n1) (hn1 : n1 ≤ 1000) (hN : h.2.2.2.2 < 1000000) (hc : kx_cl[ci]? = some r) (hca : Cond.castable r.1 "java/lang/Object" ∈ kx_nw) (hel : ∀ i, i < n0 → ∀ y, h.2.2.1 a0 i = some y → (h.2.2.2.1 y).1 = ci + 1 ∧ y ≠ h.2.2.2.2) : kx_Sp l g m_Ar_copyOf1 [.ref a0, .int (nI n1), .ref 1000202] h (d + 1) 1 n1 (fun v h' => v = some (.ref h.2.2.2.2) ∧ h' = kx_cpR (kx_new h 54 n1) a0 h.2.2.2.2 n0) := by
  refine kx_enter_e (lv := [_, _, _, _]) (by decide +kernel) (Nat.le_of_ble_eq_true rfl) rfl ?_
  refine kx_aload_n (pc := 0) (kx_dd d_Ar_copyOf1 0 rfl) rfl rfl ?_
  refine kx_ldM (pc := 1) rfl (kx_dd d_Ar_copyOf1 1 rfl) ?_
  refine kx_acmp_neF (pc := 3) (tgt := 13) (kx_dd d_Ar_copyOf1 2 rfl) rfl ?_
  refine kx_iload_n (pc := 6) (kx_dd d_Ar_copyOf1 3 rfl) rfl rfl ?_
  refine kx_newR (pc := 7) (N' := n1) kl_lm.2.1 (nI_pos (by omega)) (nI_clamp (by omega)) (by omega) hN (Nat.le_refl _) (Nat.le_of_eq (Nat.zero_add _)) (kx_dd d_Ar_copyOf1 4 rfl) ?_
  refine kx_goto (pc := 10) (tgt := 24) (kx_dd d_Ar_copyOf1 5 rfl) rfl ?_
  refine kx_astore_ne (pc := 24) (lv' := [_, _, _, _]) (kx_dd d_Ar_copyOf1 11 rfl) rfl (Nat.le_of_ble_eq_true rfl) rfl ?_
  refine kx_aload_n (pc := 25) (kx_dd d_Ar_copyOf1 12 rfl) rfl rfl ?_
  refine kx_iconst (pc := 26) (v := 0) (kx_dd d_Ar_copyOf1 13 rfl) rfl ?_
  refine kx_aload_n (pc := 27) (kx_dd d_Ar_copyOf1 14 rfl) rfl rfl ?_
  refine kx_iconst (pc := 28) (v := 0) (kx_dd d_Ar_copyOf1 15 rfl) rfl ?_
  refine kx_aload_n (pc := 29) (kx_dd d_Ar_copyOf1 16 rfl) rfl rfl ?_
  have ha0 : (kx_new h 54 n1).2.2.2.1 a0 = (54, n0) := by
    show (if a0 = h.2.2.2.2 then _ else _) = _
    rw [if_neg hne]; exact hk0
  have ha1 : (kx_new h 54 n1).2.2.2.1 h.2.2.2.2 = (54, n1) := by
    show (if h.2.2.2.2 = h.2.2.2.2 then _ else _) = _
    rw [if_pos rfl]
  refine kx_alen (pc := 30) (v := nI n0) ⟨by rw [ha0]; exact Nat.le_of_ble_eq_true rfl, by rw [ha0]; exact Nat.le_of_ble_eq_true rfl⟩ (by rw [ha0]; rfl) (kx_dd d_Ar_copyOf1 17 rfl) ?_
  refine kx_iload_n (pc := 31) (kx_dd d_Ar_copyOf1 18 rfl) rfl rfl ?_
  refine kx_mmin (pc := 32) mk_Ar_304 (kx_dd d_Ar_copyOf1 19 rfl) (Nat.le_of_ble_eq_true rfl) (Nat.le_of_ble_eq_true rfl) (Nat.le_refl _) (Nat.le_of_eq (Nat.zero_add _)) ?_
  rw [show (if nI n1 < nI n0 then nI n1 else nI n0) = nI n0 from if_neg (fun z => absurd ((nI_ltI (by omega) (by omega)).mp z) (by omega))]
  refine kx_copyR (pc := 35) (ci := ci) (n := n0) rfl ha0 ha1 hN (Nat.le_refl _) hle (by omega) hc hca (fun i hi y hy => ?_) (Nat.le_of_ble_eq_true rfl) (Nat.le_of_ble_eq_true rfl) (kx_dd d_Ar_copyOf1 20 rfl) ?_
  · have hy : (if a0 = h.2.2.2.2 then none else h.2.2.1 a0 i) = some y := hy
    rw [if_neg hne] at hy
    show ((if y = h.2.2.2.2 then _ else _ : Nat × Nat)).1 = _
    have hq := hel i hi y hy
    rw [if_neg hq.2]; exact hq.1
  refine kx_aload_n (pc := 38) (kx_dd d_Ar_copyOf1 21 rfl) rfl rfl ?_
  refine kx_aret (pc := 39) (r := some (h.2.2.2.2)) rfl (Or.inr ⟨_, rfl⟩) (kx_dd d_Ar_copyOf1 22 rfl) (Nat.le_refl _) (Nat.le_of_eq (Nat.zero_add _)) ?_
  exact ⟨rfl, rfl⟩
theorem x_Ar_copyOf0 {l : Launch} {g : kx_G} {d : Nat} {h : kx_Mem} (a0 n0 n1 ci : Nat) {r : vw_C} (hk0 : h.2.2.2.1 a0 = (54, n0)) (hne : a0 ≠ h.2.2.2.2) (hle : n0 ≤ n1) (hn1 : n1 ≤ 1000) (hN : h.2.2.2.2 < 1000000) (hc : kx_cl[ci]? = some r) (hca : Cond.castable r.1 "java/lang/Object" ∈ kx_nw) (hel : ∀ i, i < n0 → ∀ y, h.2.2.1 a0 i = some y → (h.2.2.2.1 y).1 = ci + 1 ∧ y ≠ h.2.2.2.2) : kx_Sp l g m_Ar_copyOf0 [.ref a0, .int (nI n1)] h (d + 2) 1 n1 (fun v h' => v = some (.ref h.2.2.2.2) ∧ h' = kx_cpR (kx_new h 54 n1) a0 h.2.2.2.2 n0) := by
  refine kx_enter_e (lv := [_, _]) (by decide +kernel) (Nat.le_of_ble_eq_true rfl) rfl ?_
  refine kx_aload_n (pc := 0) (kx_dd d_Ar_copyOf0 0 rfl) rfl rfl ?_
  refine kx_iload_n (pc := 1) (kx_dd d_Ar_copyOf0 1 rfl) rfl rfl ?_
  refine kx_aload_n (pc := 2) (kx_dd d_Ar_copyOf0 2 rfl) rfl rfl ?_
  refine kx_getCl (pc := 3) rfl (by rw [hk0]) (Nat.le_of_ble_eq_true rfl) (Nat.le_of_ble_eq_true rfl) (kx_dd d_Ar_copyOf0 3 rfl) ?_
  refine kx_invS (pc := 6) (as := [_, _, _]) (kx_dd d_Ar_copyOf0 4 rfl) ⟨lk_Ar_300, wt_Ar_copyOf1⟩ w_Ar_copyOf1 rfl rfl (Nat.le_of_ble_eq_true rfl) (x_Ar_copyOf1 (d := d) a0 n0 n1 ci hk0 hne hle hn1 hN hc hca hel) (Nat.le_refl _) ⟨Nat.le_refl _, Nat.le_of_eq (Nat.zero_add _)⟩ (fun v h' hq => ?_)
  obtain ⟨rfl, he⟩ := hq
  rw [he]
  clear he
  refine kx_aret (pc := 9) (r := some (h.2.2.2.2)) rfl (Or.inr ⟨_, rfl⟩) (kx_dd d_Ar_copyOf0 5 rfl) (Nat.le_refl _) (Nat.le_of_eq (Nat.zero_add _)) ?_
  exact ⟨rfl, rfl⟩
/-- a list's row is real, or the shared empty one -/
def LSr (n ea cap : Nat) (h : kx_Mem) : Prop := (10 ≤ cap ∧ 154 ≤ ea ∧ ea < h.2.2.2.2 ∧ h.2.2.2.1 ea = (54, cap)) ∨ (n = 0 ∧ cap = 0 ∧ ea = 1000201)
/-- what growing leaves -/
def GrQ (o n ea : Nat) (h : kx_Mem) (v : Option Value) (h' : kx_Mem) : Prop := v = some (.ref h.2.2.2.2) ∧ ∃ cap, 10 ≤ cap ∧ n < cap ∧ cap ≤ 400 ∧ h'.2.2.2.2 = h.2.2.2.2 + 1 ∧ h'.2.2.2.1 h.2.2.2.2 = (54, cap) ∧ h'.2.2.1 o 1 = some h.2.2.2.2 ∧ (∀ j, j < n → h'.2.2.1 h.2.2.2.2 j = h.2.2.1 ea j) ∧ ∀ a, a ≠ h.2.2.2.2 → h'.2.2.2.1 a = h.2.2.2.1 a ∧ ∀ j, h'.1 a j = h.1 a j ∧ h'.2.1 a j = h.2.1 a j ∧ (¬ (a = o ∧ j = 1) → h'.2.2.1 a j = h.2.2.1 a j)
theorem x_AL_grow0a {l : Launch} {g : kx_G} {d : Nat} {h : kx_Mem} (o n ea cap ci : Nat) (ad : Nat → Nat) {r : vw_C} (hko : h.2.2.2.1 o = (1, 0)) (hol : o < 154) (hN0 : 154 ≤ h.2.2.2.2) (hN : h.2.2.2.2 < 1000000) (hl : LSc o n ea cap ad h) (hlr : LSr n ea cap h) (hn : n < 150) (hfull : n = cap) (hc : kx_cl[ci]? = some r) (hca : Cond.castable r.1 "java/lang/Object" ∈ kx_nw) (hel : ∀ i, i < n → (h.2.2.2.1 (ad i)).1 = ci + 1 ∧ ad i < h.2.2.2.2) (h10 : 10 ≤ cap ∧ 154 ≤ ea ∧ ea < h.2.2.2.2 ∧ h.2.2.2.1 ea = (54, cap)) : kx_Sp l g m_AL_grow0 [.ref o, .int (nI (cap + 1))] h (d + 3) 1 400 (fun v h' => GrQ o n ea h v h') := by
  obtain ⟨h10, hea1, hea2, hkea⟩ := h10
  refine kx_enter_e (lv := [_, _, _, _]) (by decide +kernel) (Nat.le_of_ble_eq_true rfl) rfl ?_
  refine kx_aload_n (pc := 0) (kx_dd d_AL_grow0 0 rfl) rfl rfl ?_
  refine kx_getR (pc := 1) (b := ea) fl_AL_9 (congrArg Prod.fst hko) rfl hl.2.1 (kx_dd d_AL_grow0 1 rfl) ?_
  refine kx_alen (pc := 4) (v := nI cap) ⟨by rw [hkea]; exact Nat.le_of_ble_eq_true rfl, by rw [hkea]; exact Nat.le_of_ble_eq_true rfl⟩ (by rw [hkea]; rfl) (kx_dd d_AL_grow0 2 rfl) ?_
  refine kx_istore_ne (pc := 5) (lv' := [_, _, _, _]) (kx_dd d_AL_grow0 3 rfl) rfl (Nat.le_of_ble_eq_true rfl) rfl ?_
  refine kx_iload_n (pc := 6) (kx_dd d_AL_grow0 4 rfl) rfl rfl ?_
  refine kx_if_gt (pc := 7) (tgt := 20) (kx_dd d_AL_grow0 5 rfl) rfl (fun c7 => ?_) (fun c7 => ?_)
  · refine kx_iload_n (pc := 20) (kx_dd d_AL_grow0 10 rfl) rfl rfl ?_
    refine kx_iload_n (pc := 21) (kx_dd d_AL_grow0 11 rfl) rfl rfl ?_
    refine kx_iload_n (pc := 22) (kx_dd d_AL_grow0 12 rfl) rfl rfl ?_
    refine kx_isub (pc := 23) (kx_dd d_AL_grow0 13 rfl) ?_
    refine kx_iload_n (pc := 24) (kx_dd d_AL_grow0 14 rfl) rfl rfl ?_
    refine kx_iconst (pc := 25) (v := 1) (kx_dd d_AL_grow0 15 rfl) rfl ?_
    refine kx_ishr (pc := 26) (kx_dd d_AL_grow0 16 rfl) ?_
    rw [sh1 cap (by omega), show nI (cap + 1) - nI cap = nI 1 from by rw [pk_sub (by omega), Nat.add_sub_cancel_left]]
    refine kx_invS (pc := 27) (as := [_, _, _]) (kx_dd d_AL_grow0 17 rfl) ⟨lk_AL_73, wt_AS_newLength⟩ w_AS_newLength rfl rfl (Nat.le_of_ble_eq_true rfl) (x_AS_newLength (d := d + 1) cap (by omega) (by omega)) (Nat.le_refl _) ⟨Nat.zero_le _, Nat.zero_le _⟩ (fun v h' hq => ?_)
    obtain ⟨rfl, he⟩ := hq
    rw [he]
    clear he
    refine kx_istore_ne (pc := 30) (lv' := [_, _, _, _]) (kx_dd d_AL_grow0 18 rfl) rfl (Nat.le_of_ble_eq_true rfl) rfl ?_
    refine kx_aload_n (pc := 31) (kx_dd d_AL_grow0 19 rfl) rfl rfl ?_
    refine kx_aload_n (pc := 32) (kx_dd d_AL_grow0 20 rfl) rfl rfl ?_
    refine kx_getR (pc := 33) (b := ea) fl_AL_9 (congrArg Prod.fst hko) rfl hl.2.1 (kx_dd d_AL_grow0 21 rfl) ?_
    refine kx_iload_n (pc := 36) (kx_dd d_AL_grow0 22 rfl) rfl rfl ?_
    refine kx_invS (pc := 37) (as := [_, _]) (kx_dd d_AL_grow0 23 rfl) ⟨lk_AL_66, wt_Ar_copyOf0⟩ w_Ar_copyOf0 rfl rfl (Nat.le_of_ble_eq_true rfl) (x_Ar_copyOf0 (d := d) ea cap (cap + cap / 2) ci hkea (by omega) (by omega) (by omega) hN hc hca (fun i hi y hy => by have e8 := (hl.2.2.2.2.2 i (by omega)).symm.trans hy; injection e8 with e8; subst e8; have := hel i (by omega); exact ⟨this.1, by omega⟩)) (Nat.le_refl _) ⟨Nat.le_refl _, by show 0 + 0 + (cap + cap / 2) ≤ 400; omega⟩ (fun v h' hq => ?_)
    obtain ⟨rfl, he⟩ := hq
    rw [he]
    clear he
    refine kx_dup_x1 (pc := 40) (kx_dd d_AL_grow0 24 rfl) rfl rfl ?_
    have hko2 : (kx_cpR (kx_new h 54 (cap + cap / 2)) ea h.2.2.2.2 cap).2.2.2.1 o = (1, 0) := by
      show (if o = h.2.2.2.2 then _ else _) = _
      rw [if_neg (by omega)]; exact hko
    refine kx_putR (pc := 41) (v := some h.2.2.2.2) fl_AL_9 (by rw [hko2]) (by omega) rfl rfl (kx_dd d_AL_grow0 25 rfl) ?_
    refine kx_aret (pc := 44) (r := some (h.2.2.2.2)) rfl (Or.inr ⟨_, rfl⟩) (kx_dd d_AL_grow0 26 rfl) (Nat.le_refl _) (by show 0 + 0 + (cap + cap / 2) ≤ 400; omega) ?_
    have n1 : o ≠ h.2.2.2.2 := by omega
    have n2 : ea ≠ h.2.2.2.2 := by omega
    refine ⟨rfl, cap + cap / 2, by omega, by omega, by omega, rfl, ?_, ?_, fun j hj => ?_, fun a ha => ⟨?_, fun j => ⟨?_, ?_, fun hj => ?_⟩⟩⟩
    · simp [kx_setR, kx_cpR, kx_new]
    · simp [kx_setR, kx_up]
    · simp [kx_setR, kx_cpR, kx_new, kx_up, Ne.symm n1, n2, show j < cap by omega]
    · simp [kx_setR, kx_cpR, kx_new, ha]
    · simp [kx_setR, kx_cpR, kx_new, ha]
    · simp [kx_setR, kx_cpR, kx_new, ha]
    · by_cases ho : a = o
      · subst ho
        have hj1 : j ≠ 1 := fun z => hj ⟨rfl, z⟩
        simp [kx_setR, kx_cpR, kx_new, kx_up, ha, hj1]
      · simp [kx_setR, kx_cpR, kx_new, kx_up, ha, ho]
  · exact absurd (nI_lt (a := 0) (show 0 < cap by omega) (by omega)) c7
theorem x_AL_grow0b {l : Launch} {g : kx_G} {d : Nat} {h : kx_Mem} (o n ea cap ci : Nat) (ad : Nat → Nat) {r : vw_C} (hko : h.2.2.2.1 o = (1, 0)) (hol : o < 154) (hN0 : 154 ≤ h.2.2.2.2) (hN : h.2.2.2.2 < 1000000) (hl : LSc o n ea cap ad h) (hlr : LSr n ea cap h) (hn : n < 150) (hfull : n = cap) (hc : kx_cl[ci]? = some r) (hca : Cond.castable r.1 "java/lang/Object" ∈ kx_nw) (hel : ∀ i, i < n → (h.2.2.2.1 (ad i)).1 = ci + 1 ∧ ad i < h.2.2.2.2) (hz : n = 0 ∧ cap = 0 ∧ ea = 1000201) : kx_Sp l g m_AL_grow0 [.ref o, .int (nI (cap + 1))] h (d + 3) 1 400 (fun v h' => GrQ o n ea h v h') := by
  obtain ⟨hz1, hz2, hz3⟩ := hz
  subst hz3
  subst hz2
  refine kx_enter_e (lv := [_, _, _, _]) (by decide +kernel) (Nat.le_of_ble_eq_true rfl) rfl ?_
  refine kx_aload_n (pc := 0) (kx_dd d_AL_grow0 0 rfl) rfl rfl ?_
  refine kx_getR (pc := 1) (b := 1000201) fl_AL_9 (congrArg Prod.fst hko) rfl hl.2.1 (kx_dd d_AL_grow0 1 rfl) ?_
  refine kx_alen0 (pc := 4) (kx_dd d_AL_grow0 2 rfl) ?_
  refine kx_istore_ne (pc := 5) (lv' := [_, _, _, _]) (kx_dd d_AL_grow0 3 rfl) rfl (Nat.le_of_ble_eq_true rfl) rfl ?_
  refine kx_iload_n (pc := 6) (kx_dd d_AL_grow0 4 rfl) rfl rfl ?_
  refine kx_if_gt (pc := 7) (tgt := 20) (kx_dd d_AL_grow0 5 rfl) rfl (fun c7 => absurd c7 (by decide)) (fun _ => ?_)
  refine kx_aload_n (pc := 10) (kx_dd d_AL_grow0 6 rfl) rfl rfl ?_
  refine kx_getR (pc := 11) (b := 1000201) fl_AL_9 (congrArg Prod.fst hko) rfl hl.2.1 (kx_dd d_AL_grow0 7 rfl) ?_
  refine kx_get0 (pc := 14) rfl (kx_dd d_AL_grow0 8 rfl) ?_
  refine kx_acmp_eqT (pc := 17) (tgt := 45) (kx_dd d_AL_grow0 9 rfl) rfl ?_
  refine kx_aload_n (pc := 45) (kx_dd d_AL_grow0 27 rfl) rfl rfl ?_
  refine kx_bipush (pc := 46) (v := 10) (kx_dd d_AL_grow0 28 rfl) rfl ?_
  refine kx_iload_n (pc := 48) (kx_dd d_AL_grow0 29 rfl) rfl rfl ?_
  refine kx_mmax (pc := 49) mk_AL_79 (kx_dd d_AL_grow0 30 rfl) (Nat.le_of_ble_eq_true rfl) (Nat.le_of_ble_eq_true rfl) (Nat.zero_le _) (Nat.zero_le _) ?_
  rw [show (if (10 : Int32) < nI (0 + 1) then nI (0 + 1) else 10) = nI 10 from rfl]
  refine kx_newR (pc := 52) (N' := 10) kl_lm.2.2 (nI_pos (by decide)) (nI_clamp (by decide)) (by decide) hN (Nat.le_refl _) (Nat.le_of_ble_eq_true rfl) (kx_dd d_AL_grow0 31 rfl) ?_
  refine kx_dup_x1 (pc := 55) (kx_dd d_AL_grow0 32 rfl) rfl rfl ?_
  have hko2 : (kx_new h 54 10).2.2.2.1 o = (1, 0) := by
    show (if o = h.2.2.2.2 then _ else _) = _
    rw [if_neg (by omega)]; exact hko
  refine kx_putR (pc := 56) (v := some h.2.2.2.2) fl_AL_9 (by rw [hko2]) (by omega) rfl rfl (kx_dd d_AL_grow0 33 rfl) ?_
  refine kx_aret (pc := 59) (r := some (h.2.2.2.2)) rfl (Or.inr ⟨_, rfl⟩) (kx_dd d_AL_grow0 34 rfl) (Nat.le_refl _) (Nat.le_of_ble_eq_true rfl) ?_
  have n1 : o ≠ h.2.2.2.2 := by omega
  refine ⟨rfl, 10, by omega, by omega, by omega, rfl, ?_, ?_, fun j hj => absurd hj (by omega), fun a ha => ⟨?_, fun j => ⟨?_, ?_, fun hj => ?_⟩⟩⟩
  · simp [kx_setR, kx_new]
  · simp [kx_setR, kx_up]
  · simp [kx_setR, kx_new, ha]
  · simp [kx_setR, kx_new, ha]
  · simp [kx_setR, kx_new, ha]
  · by_cases ho : a = o
    · subst ho
      have hj1 : j ≠ 1 := fun z => hj ⟨rfl, z⟩
      simp [kx_setR, kx_new, kx_up, ha, hj1]
    · simp [kx_setR, kx_new, kx_up, ha, ho]
theorem x_AL_grow0 {l : Launch} {g : kx_G} {d : Nat} {h : kx_Mem} (o n ea cap ci : Nat) (ad : Nat → Nat) {r : vw_C} (hko : h.2.2.2.1 o = (1, 0)) (hol : o < 154) (hN0 : 154 ≤ h.2.2.2.2) (hN : h.2.2.2.2 < 1000000) (hl : LSc o n ea cap ad h) (hlr : LSr n ea cap h) (hn : n < 150) (hfull : n = cap) (hc : kx_cl[ci]? = some r) (hca : Cond.castable r.1 "java/lang/Object" ∈ kx_nw) (hel : ∀ i, i < n → (h.2.2.2.1 (ad i)).1 = ci + 1 ∧ ad i < h.2.2.2.2) : kx_Sp l g m_AL_grow0 [.ref o, .int (nI (n + 1))] h (d + 3) 1 400 (fun v h' => GrQ o n ea h v h') := by
  have e : nI (n + 1) = nI (cap + 1) := by rw [hfull]
  rw [e]
  rcases id hlr with z | z
  · exact x_AL_grow0a o n ea cap ci ad hko hol hN0 hN hl hlr hn hfull hc hca hel z
  · exact x_AL_grow0b o n ea cap ci ad hko hol hN0 hN hl hlr hn hfull hc hca hel z
theorem x_AL_grow1 {l : Launch} {g : kx_G} {d : Nat} {h : kx_Mem} (o n ea cap ci : Nat) (ad : Nat → Nat) {r : vw_C} (hko : h.2.2.2.1 o = (1, 0)) (hol : o < 154) (hN0 : 154 ≤ h.2.2.2.2) (hN : h.2.2.2.2 < 1000000) (hl : LSc o n ea cap ad h) (hlr : LSr n ea cap h) (hn : n < 150) (hfull : n = cap) (hc : kx_cl[ci]? = some r) (hca : Cond.castable r.1 "java/lang/Object" ∈ kx_nw) (hel : ∀ i, i < n → (h.2.2.2.1 (ad i)).1 = ci + 1 ∧ ad i < h.2.2.2.2) : kx_Sp l g m_AL_grow1 [.ref o] h (d + 4) 1 400 (fun v h' => GrQ o n ea h v h') := by
  refine kx_enter_e (lv := [_]) (by decide +kernel) (Nat.le_of_ble_eq_true rfl) rfl ?_
  refine kx_aload_n (pc := 0) (kx_dd d_AL_grow1 0 rfl) rfl rfl ?_
  refine kx_aload_n (pc := 1) (kx_dd d_AL_grow1 1 rfl) rfl rfl ?_
  refine kx_getI (pc := 2) fl_AL_48 (congrArg Prod.fst hko) rfl (kx_dd d_AL_grow1 2 rfl) ?_
  refine kx_iconst (pc := 5) (v := 1) (kx_dd d_AL_grow1 3 rfl) rfl ?_
  refine kx_iadd (pc := 6) (kx_dd d_AL_grow1 4 rfl) ?_
  rw [hl.1, nI_1]
  refine kx_invV (pc := 7) (a := o) (as := [_]) (kx_dd d_AL_grow1 5 rfl) ⟨lk_AL_69, wi_AL_grow0, we_AL_grow0⟩ w_AL_grow0 (congrArg Prod.fst hko) rfl rfl rfl rfl (Nat.le_of_ble_eq_true rfl) (x_AL_grow0 (d := d) o n ea cap ci ad hko hol hN0 hN hl hlr hn hfull hc hca hel) (Nat.le_refl _) ⟨Nat.le_refl _, Nat.le_refl _⟩ (fun v h' hq => ?_)
  revert h'
  intro h1 hq
  have hv := hq.1
  subst hv
  refine kx_aret (pc := 10) (r := some (h.2.2.2.2)) rfl (Or.inr ⟨_, rfl⟩) (kx_dd d_AL_grow1 6 rfl) (Nat.le_refl _) (Nat.le_refl _) ?_
  exact hq
/-- what adding leaves -/
def AdQ (o n ea y : Nat) (ad : Nat → Nat) (h h' : kx_Mem) : Prop := ∃ ea' cap', LSc o (n + 1) ea' cap' (upF ad n y) h' ∧ LSr (n + 1) ea' cap' h' ∧ (ea' = ea ∨ ea' = h.2.2.2.2) ∧ h.2.2.2.2 ≤ h'.2.2.2.2 ∧ h'.2.2.2.2 ≤ h.2.2.2.2 + 1 ∧ ∀ a, (a < h.2.2.2.2 ∨ 1000000 ≤ a) → h'.2.2.2.1 a = h.2.2.2.1 a ∧ ∀ j, (¬ (a = o ∧ (j = 0 ∨ j = 2)) → h'.1 a j = h.1 a j) ∧ h'.2.1 a j = h.2.1 a j ∧ (¬ (a = o ∧ j = 1) → ¬ (a = ea ∧ j = n) → h'.2.2.1 a j = h.2.2.1 a j)
theorem kx_aastn {f : kx_F} {cells slots pc : Nat} {lv : List (Option Value)} {st : List Value} {h : kx_Mem} {a v n ci : Nat} {i : Int32} {r : vw_C} (q : Nat) (hk : h.2.2.2.1 a = (54, n)) (ha : a < 1000000) (hkv : (h.2.2.2.1 v).1 = ci + 1) (hc : kx_cl[ci]? = some r) (hca : Cond.castable r.1 "java/lang/Object" ∈ kx_nw) (hq : i = nI q) (hqn : q < n) (hn : n < 2 ^ 31) (hd : decode f.2.2.1.2.1 pc = .ok (.aastore, 1)) (k : kx_X f cells slots (pc + 1) lv st (kx_setR h a q (some v))) : kx_X f cells slots pc lv (.ref v :: .int i :: .ref a :: st) h := by
  subst hq
  refine kx_aast (by rw [hk]) ha hkv hc (Or.inl ⟨rfl, hca⟩) (by rw [hk]; exact vp_in_nI hqn hn) hd ?_
  rw [nI_clamp (by omega)]
  exact k
theorem AdQ.of {o n ea y row cap : Nat} {ad : Nat → Nat} {h h1 : kx_Mem} (hrow : h1.2.2.2.1 row = (54, cap)) (hn : n < cap) (hc1 : cap ≤ 1000) (hc2 : 10 ≤ cap) (hr1 : 154 ≤ row) (hr2 : row < h1.2.2.2.2) (e1 : h1.2.2.1 o 1 = some row) (els : ∀ j, j < n → h1.2.2.1 row j = some (ad j)) (hor : o < 154) (hw : row = ea ∨ row = h.2.2.2.2) (hN1 : h.2.2.2.2 ≤ h1.2.2.2.2) (hN2 : h1.2.2.2.2 ≤ h.2.2.2.2 + 1) (hNm : h.2.2.2.2 < 1000000)
    (hfr : ∀ a, (a < h.2.2.2.2 ∨ 1000000 ≤ a) → h1.2.2.2.1 a = h.2.2.2.1 a ∧ ∀ j, h1.1 a j = h.1 a j ∧ h1.2.1 a j = h.2.1 a j ∧ (¬ (a = o ∧ j = 1) → h1.2.2.1 a j = h.2.2.1 a j)) : AdQ o n ea y ad h (kx_setI (kx_setR h1 row n (some y)) o 2 (nI (n + 1))) := by
  have n1 : o ≠ row := by omega
  refine ⟨row, cap, ⟨?_, ?_, Or.inl hrow, by omega, hc1, fun c hc => ?_⟩, Or.inl ⟨hc2, hr1, hr2, hrow⟩, hw, hN1, hN2, fun a ha => ⟨(hfr a ha).1, fun j => ⟨fun hj => ?_, ((hfr a ha).2 j).2.1, fun hj hj2 => ?_⟩⟩⟩
  · simp [kx_setI, kx_up]
  · show kx_up h1.2.2.1 row n (some y) o 1 = some row
    rw [kx_up_ne n1]; exact e1
  · show kx_up h1.2.2.1 row n (some y) row c = some (upF ad n y c)
    rw [kx_up_at]
    unfold upF
    by_cases hcn : c = n
    · rw [if_pos hcn, if_pos hcn]
    · rw [if_neg hcn, if_neg hcn]; exact els c (by omega)
  · show kx_up h1.1 o 2 (nI (n + 1)) a j = _
    by_cases ho : a = o
    · subst ho
      rw [kx_up_at, if_neg (fun z => hj ⟨rfl, Or.inr z⟩)]; exact ((hfr a ha).2 j).1
    · rw [kx_up_ne ho]; exact ((hfr a ha).2 j).1
  · show kx_up h1.2.2.1 row n (some y) a j = _
    by_cases ho : a = row
    · rcases hw with hw | hw
      · subst ho
        rw [kx_up_at, if_neg (fun z => hj2 ⟨hw, z⟩)]; exact ((hfr a ha).2 j).2.2 hj
      · omega
    · rw [kx_up_ne ho]; exact ((hfr a ha).2 j).2.2 hj
theorem x_AL_add0a {l : Launch} {g : kx_G} {d : Nat} {h : kx_Mem} (o n ea cap ci : Nat) (ad : Nat → Nat) {r : vw_C} (hko : h.2.2.2.1 o = (1, 0)) (hol : o < 154) (hN0 : 154 ≤ h.2.2.2.2) (hN : h.2.2.2.2 < 1000000) (hl : LSc o n ea cap ad h) (hlr : LSr n ea cap h) (hn : n < 150) (hc : kx_cl[ci]? = some r) (hca : Cond.castable r.1 "java/lang/Object" ∈ kx_nw) (hel : ∀ i, i < n → (h.2.2.2.1 (ad i)).1 = ci + 1 ∧ ad i < h.2.2.2.2) (y : Nat) (hky : (h.2.2.2.1 y).1 = ci + 1) (hyl : y < h.2.2.2.2) (h10 : 10 ≤ cap ∧ 154 ≤ ea ∧ ea < h.2.2.2.2 ∧ h.2.2.2.1 ea = (54, cap)) : kx_Sp l g m_AL_add0 [.ref o, .ref y, .ref ea, .int (nI n)] h (d + 5) 1 400 (fun v h' => v = none ∧ AdQ o n ea y ad h h') := by
  obtain ⟨h10, hea1, hea2, hkea⟩ := h10
  have hcap := hl.2.2.2.2.1
  have hncap := hl.2.2.2.1
  refine kx_enter_e (lv := [_, _, _, _]) (by decide +kernel) (Nat.le_of_ble_eq_true rfl) rfl ?_
  refine kx_iload_n (pc := 0) (kx_dd d_AL_add0 0 rfl) rfl rfl ?_
  refine kx_aload_n (pc := 1) (kx_dd d_AL_add0 1 rfl) rfl rfl ?_
  refine kx_alen (pc := 2) (v := nI cap) ⟨by rw [hkea]; exact Nat.le_of_ble_eq_true rfl, by rw [hkea]; exact Nat.le_of_ble_eq_true rfl⟩ (by rw [hkea]; rfl) (kx_dd d_AL_add0 2 rfl) ?_
  refine kx_icmp_ne (pc := 3) (tgt := 11) (kx_dd d_AL_add0 3 rfl) rfl (fun c3 => ?_) (fun c3 => ?_)
  · have c3 : n ≠ cap := fun z => c3 (by rw [z])
    refine kx_aload_n (pc := 11) (kx_dd d_AL_add0 7 rfl) rfl rfl ?_
    refine kx_iload_n (pc := 12) (kx_dd d_AL_add0 8 rfl) rfl rfl ?_
    refine kx_aload_n (pc := 13) (kx_dd d_AL_add0 9 rfl) rfl rfl ?_
    refine kx_aastn (pc := 14) (ci := ci) n hkea (by omega) hky hc hca rfl (by omega) (by omega) (kx_dd d_AL_add0 10 rfl) ?_
    refine kx_aload_n (pc := 15) (kx_dd d_AL_add0 11 rfl) rfl rfl ?_
    refine kx_iload_n (pc := 16) (kx_dd d_AL_add0 12 rfl) rfl rfl ?_
    refine kx_iconst (pc := 17) (v := 1) (kx_dd d_AL_add0 13 rfl) rfl ?_
    refine kx_iadd (pc := 18) (kx_dd d_AL_add0 14 rfl) ?_
    rw [nI_1]
    refine kx_putI (pc := 19) fl_AL_48 (show (h.2.2.2.1 o).1 = 1 by rw [hko]) (by omega) rfl rfl (kx_dd d_AL_add0 15 rfl) ?_
    refine kx_vret (pc := 22) rfl (kx_dd d_AL_add0 16 rfl) (Nat.le_of_ble_eq_true rfl) (Nat.le_of_ble_eq_true rfl) ?_
    exact ⟨rfl, AdQ.of hkea (by omega) hl.2.2.2.2.1 h10 hea1 hea2 hl.2.1 hl.2.2.2.2.2 hol (Or.inl rfl) (Nat.le_refl _) (Nat.le_succ _) hN (fun a ha => ⟨rfl, fun j => ⟨rfl, rfl, fun _ => rfl⟩⟩)⟩
  · refine kx_aload_n (pc := 6) (kx_dd d_AL_add0 4 rfl) rfl rfl ?_
    have hf9 : n = cap := (nI_eq (by omega) (by omega)).mp c3
    refine kx_invV (pc := 7) (a := o) (as := []) (kx_dd d_AL_add0 5 rfl) ⟨lk_AL_129, wi_AL_grow1, we_AL_grow1⟩ w_AL_grow1 (congrArg Prod.fst hko) rfl rfl rfl rfl (Nat.le_of_ble_eq_true rfl) (x_AL_grow1 (d := d) o n ea cap ci ad hko hol hN0 hN hl hlr hn hf9 hc hca hel) (Nat.le_refl _) ⟨Nat.le_refl _, Nat.le_refl _⟩ (fun v h' hq => ?_)
    revert h'
    intro h1 hq
    obtain ⟨rfl, cap9, g1, hn9, g3, g4, k54, g6, g7, kfr⟩ := hq
    refine kx_astore_ne (pc := 10) (lv' := [_, _, _, _]) (kx_dd d_AL_add0 6 rfl) rfl (Nat.le_of_ble_eq_true rfl) rfl ?_
    refine kx_aload_n (pc := 11) (kx_dd d_AL_add0 7 rfl) rfl rfl ?_
    refine kx_iload_n (pc := 12) (kx_dd d_AL_add0 8 rfl) rfl rfl ?_
    refine kx_aload_n (pc := 13) (kx_dd d_AL_add0 9 rfl) rfl rfl ?_
    refine kx_aastn (pc := 14) (ci := ci) n k54 hN ((congrArg Prod.fst (kfr y (by omega)).1).trans hky) hc hca rfl hn9 (by omega) (kx_dd d_AL_add0 10 rfl) ?_
    refine kx_aload_n (pc := 15) (kx_dd d_AL_add0 11 rfl) rfl rfl ?_
    refine kx_iload_n (pc := 16) (kx_dd d_AL_add0 12 rfl) rfl rfl ?_
    refine kx_iconst (pc := 17) (v := 1) (kx_dd d_AL_add0 13 rfl) rfl ?_
    refine kx_iadd (pc := 18) (kx_dd d_AL_add0 14 rfl) ?_
    rw [nI_1]
    refine kx_putI (pc := 19) fl_AL_48 ((congrArg Prod.fst (kfr o (by omega)).1).trans (by rw [hko])) (by omega) rfl rfl (kx_dd d_AL_add0 15 rfl) ?_
    refine kx_vret (pc := 22) rfl (kx_dd d_AL_add0 16 rfl) (Nat.le_of_ble_eq_true rfl) (Nat.le_of_ble_eq_true rfl) ?_
    refine ⟨rfl, ?_⟩
    refine AdQ.of k54 hn9 (by omega) g1 hN0 (by omega) g6 (fun j hj => by rw [g7 j hj]; exact hl.2.2.2.2.2 j hj) hol (Or.inr rfl) (by omega) (by omega) hN (fun a ha => kfr a (by omega))
theorem x_AL_add0b {l : Launch} {g : kx_G} {d : Nat} {h : kx_Mem} (o n ea cap ci : Nat) (ad : Nat → Nat) {r : vw_C} (hko : h.2.2.2.1 o = (1, 0)) (hol : o < 154) (hN0 : 154 ≤ h.2.2.2.2) (hN : h.2.2.2.2 < 1000000) (hl : LSc o n ea cap ad h) (hlr : LSr n ea cap h) (hn : n < 150) (hc : kx_cl[ci]? = some r) (hca : Cond.castable r.1 "java/lang/Object" ∈ kx_nw) (hel : ∀ i, i < n → (h.2.2.2.1 (ad i)).1 = ci + 1 ∧ ad i < h.2.2.2.2) (y : Nat) (hky : (h.2.2.2.1 y).1 = ci + 1) (hyl : y < h.2.2.2.2) (hz : n = 0 ∧ cap = 0 ∧ ea = 1000201) : kx_Sp l g m_AL_add0 [.ref o, .ref y, .ref 1000201, .int (nI n)] h (d + 5) 1 400 (fun v h' => v = none ∧ AdQ o n ea y ad h h') := by
  obtain ⟨hz1, hz2, hz3⟩ := hz
  have hf9 : n = cap := by omega
  refine kx_enter_e (lv := [_, _, _, _]) (by decide +kernel) (Nat.le_of_ble_eq_true rfl) rfl ?_
  refine kx_iload_n (pc := 0) (kx_dd d_AL_add0 0 rfl) rfl rfl ?_
  refine kx_aload_n (pc := 1) (kx_dd d_AL_add0 1 rfl) rfl rfl ?_
  refine kx_alen0 (pc := 2) (kx_dd d_AL_add0 2 rfl) ?_
  refine kx_icmp_ne (pc := 3) (tgt := 11) (kx_dd d_AL_add0 3 rfl) rfl (fun c3 => ?_) (fun c3 => ?_)
  · exact absurd (show nI n = 0 by rw [hz1]; rfl) c3
  · refine kx_aload_n (pc := 6) (kx_dd d_AL_add0 4 rfl) rfl rfl ?_
    refine kx_invV (pc := 7) (a := o) (as := []) (kx_dd d_AL_add0 5 rfl) ⟨lk_AL_129, wi_AL_grow1, we_AL_grow1⟩ w_AL_grow1 (congrArg Prod.fst hko) rfl rfl rfl rfl (Nat.le_of_ble_eq_true rfl) (x_AL_grow1 (d := d) o n ea cap ci ad hko hol hN0 hN hl hlr hn hf9 hc hca hel) (Nat.le_refl _) ⟨Nat.le_refl _, Nat.le_refl _⟩ (fun v h' hq => ?_)
    revert h'
    intro h1 hq
    obtain ⟨rfl, cap9, g1, hn9, g3, g4, k54, g6, g7, kfr⟩ := hq
    refine kx_astore_ne (pc := 10) (lv' := [_, _, _, _]) (kx_dd d_AL_add0 6 rfl) rfl (Nat.le_of_ble_eq_true rfl) rfl ?_
    refine kx_aload_n (pc := 11) (kx_dd d_AL_add0 7 rfl) rfl rfl ?_
    refine kx_iload_n (pc := 12) (kx_dd d_AL_add0 8 rfl) rfl rfl ?_
    refine kx_aload_n (pc := 13) (kx_dd d_AL_add0 9 rfl) rfl rfl ?_
    refine kx_aastn (pc := 14) (ci := ci) n k54 hN ((congrArg Prod.fst (kfr y (by omega)).1).trans hky) hc hca rfl hn9 (by omega) (kx_dd d_AL_add0 10 rfl) ?_
    refine kx_aload_n (pc := 15) (kx_dd d_AL_add0 11 rfl) rfl rfl ?_
    refine kx_iload_n (pc := 16) (kx_dd d_AL_add0 12 rfl) rfl rfl ?_
    refine kx_iconst (pc := 17) (v := 1) (kx_dd d_AL_add0 13 rfl) rfl ?_
    refine kx_iadd (pc := 18) (kx_dd d_AL_add0 14 rfl) ?_
    rw [nI_1]
    refine kx_putI (pc := 19) fl_AL_48 ((congrArg Prod.fst (kfr o (by omega)).1).trans (by rw [hko])) (by omega) rfl rfl (kx_dd d_AL_add0 15 rfl) ?_
    refine kx_vret (pc := 22) rfl (kx_dd d_AL_add0 16 rfl) (Nat.le_of_ble_eq_true rfl) (Nat.le_of_ble_eq_true rfl) ?_
    refine ⟨rfl, ?_⟩
    refine AdQ.of k54 hn9 (by omega) g1 hN0 (by omega) g6 (fun j hj => by rw [g7 j hj]; exact hl.2.2.2.2.2 j hj) hol (Or.inr rfl) (by omega) (by omega) hN (fun a ha => kfr a (by omega))
theorem x_AL_add0 {l : Launch} {g : kx_G} {d : Nat} {h : kx_Mem} (o n ea cap ci : Nat) (ad : Nat → Nat) {r : vw_C} (hko : h.2.2.2.1 o = (1, 0)) (hol : o < 154) (hN0 : 154 ≤ h.2.2.2.2) (hN : h.2.2.2.2 < 1000000) (hl : LSc o n ea cap ad h) (hlr : LSr n ea cap h) (hn : n < 150) (hc : kx_cl[ci]? = some r) (hca : Cond.castable r.1 "java/lang/Object" ∈ kx_nw) (hel : ∀ i, i < n → (h.2.2.2.1 (ad i)).1 = ci + 1 ∧ ad i < h.2.2.2.2) (y : Nat) (hky : (h.2.2.2.1 y).1 = ci + 1) (hyl : y < h.2.2.2.2) : kx_Sp l g m_AL_add0 [.ref o, .ref y, .ref ea, .int (nI n)] h (d + 5) 1 400 (fun v h' => v = none ∧ AdQ o n ea y ad h h') := by
  rcases id hlr with z | z
  · exact x_AL_add0a o n ea cap ci ad hko hol hN0 hN hl hlr hn hc hca hel y hky hyl z
  · have e := z.2.2
    have := x_AL_add0b (l := l) (g := g) (d := d) o n ea cap ci ad hko hol hN0 hN hl hlr hn hc hca hel y hky hyl z
    rw [e] at this ⊢
    exact this
theorem AdQ.pre {o n ea y : Nat} {ad : Nat → Nat} {h h' : kx_Mem} {x : Int32} (k : AdQ o n ea y ad (kx_setI h o 0 x) h') : AdQ o n ea y ad h h' := by
  obtain ⟨ea1, cap1, k1, k2, k3, k4, k5, k6⟩ := k
  refine ⟨ea1, cap1, k1, k2, k3, k4, k5, fun a ha => ⟨(k6 a ha).1, fun j => ⟨fun hj => ?_, ((k6 a ha).2 j).2⟩⟩⟩
  rw [((k6 a ha).2 j).1 hj]
  show kx_up h.1 o 0 x a j = _
  by_cases ho : a = o
  · subst ho
    rw [kx_up_at, if_neg (fun z => hj ⟨rfl, Or.inl z⟩)]
  · rw [kx_up_ne ho]
theorem x_AL_add1 {l : Launch} {g : kx_G} {d : Nat} {h : kx_Mem} (o n ea cap ci : Nat) (ad : Nat → Nat) {r : vw_C} (hko : h.2.2.2.1 o = (1, 0)) (hol : o < 154) (hN0 : 154 ≤ h.2.2.2.2) (hN : h.2.2.2.2 < 1000000) (hl : LSc o n ea cap ad h) (hlr : LSr n ea cap h) (hn : n < 150) (hc : kx_cl[ci]? = some r) (hca : Cond.castable r.1 "java/lang/Object" ∈ kx_nw) (hel : ∀ i, i < n → (h.2.2.2.1 (ad i)).1 = ci + 1 ∧ ad i < h.2.2.2.2) (y : Nat) (hky : (h.2.2.2.1 y).1 = ci + 1) (hyl : y < h.2.2.2.2) : kx_Sp l g m_AL_add1 [.ref o, .ref y] h (d + 6) 1 400 (fun v h' => v = some (.int 1) ∧ AdQ o n ea y ad h h') := by
  refine kx_enter_e (lv := [_, _]) (by decide +kernel) (Nat.le_of_ble_eq_true rfl) rfl ?_
  refine kx_aload_n (pc := 0) (kx_dd d_AL_add1 0 rfl) rfl rfl ?_
  refine kx_dup (pc := 1) (kx_dd d_AL_add1 1 rfl) rfl ?_
  refine kx_getI (pc := 2) fl_AL_63 (congrArg Prod.fst hko) rfl (kx_dd d_AL_add1 2 rfl) ?_
  refine kx_iconst (pc := 5) (v := 1) (kx_dd d_AL_add1 3 rfl) rfl ?_
  refine kx_iadd (pc := 6) (kx_dd d_AL_add1 4 rfl) ?_
  refine kx_putI (pc := 7) fl_AL_63 (congrArg Prod.fst hko) (by omega) rfl rfl (kx_dd d_AL_add1 5 rfl) ?_
  refine kx_aload_n (pc := 10) (kx_dd d_AL_add1 6 rfl) rfl rfl ?_
  refine kx_aload_n (pc := 11) (kx_dd d_AL_add1 7 rfl) rfl rfl ?_
  refine kx_aload_n (pc := 12) (kx_dd d_AL_add1 8 rfl) rfl rfl ?_
  refine kx_getR (pc := 13) (b := ea) fl_AL_9 (congrArg Prod.fst hko) rfl hl.2.1 (kx_dd d_AL_add1 9 rfl) ?_
  refine kx_aload_n (pc := 16) (kx_dd d_AL_add1 10 rfl) rfl rfl ?_
  refine kx_getI (pc := 17) fl_AL_48 (congrArg Prod.fst hko) rfl (kx_dd d_AL_add1 11 rfl) ?_
  have hl1 : LSc o n ea cap ad (kx_setI h o 0 (h.1 o 0 + 1)) := ⟨by rw [← hl.1]; simp [kx_setI, kx_up], hl.2⟩
  rw [show (kx_setI h o 0 (h.1 o 0 + 1)).1 o 2 = nI n from hl1.1]
  refine kx_invV (pc := 20) (a := o) (as := [_, _, _]) (kx_dd d_AL_add1 12 rfl) ⟨lk_AL_131, wi_AL_add0, we_AL_add0⟩ w_AL_add0 (congrArg Prod.fst hko) rfl rfl rfl rfl (Nat.le_of_ble_eq_true rfl) (x_AL_add0 (d := d) (h := (kx_setI h o 0 (h.1 o 0 + 1))) o n ea cap ci ad hko hol hN0 hN hl1 hlr hn hc hca hel y hky hyl) (Nat.le_refl _) ⟨Nat.le_refl _, Nat.le_refl _⟩ (fun v h' hq => ?_)
  revert h'
  intro h1 hq
  obtain ⟨rfl, hq⟩ := hq
  refine kx_iconst (pc := 23) (v := 1) (kx_dd d_AL_add1 13 rfl) rfl ?_
  refine kx_zret (pc := 24) rfl rfl (kx_dd d_AL_add1 14 rfl) (Nat.le_refl _) (Nat.le_refl _) ?_
  exact ⟨rfl, hq.pre⟩
