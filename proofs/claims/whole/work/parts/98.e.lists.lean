/-! the lists of the class: add -/
theorem sh1 : ∀ c, c < 1001 → (nI c >>> ((1 : Int32) &&& 31)) = nI (c / 2) := by decide +kernel
theorem kn_C : Cond.castable "TreatyClaims$Claim" "java/lang/Object" ∈ kx_nw := kx_nin 2217 (by decide +kernel) (by decide +kernel)
theorem kn_P : Cond.castable "TreatyClaims$Paper" "java/lang/Object" ∈ kx_nw := kx_nin 2218 (by decide +kernel) (by decide +kernel)
theorem x_AS_newLength {l : Launch} {g : kx_G} {d : Nat} {h : kx_Mem} (c : Nat) (h10 : 10 ≤ c) (hc : c ≤ 1000) : kx_Sp l g m_AS_newLength [.int (nI c), .int (nI 1), .int (nI (c / 2))] h (d + 1) 0 0 (fun v h' => v = some (.int (nI (c + c / 2))) ∧ h' = h) := by
  refine kx_enter_e (lv := [_, _, _, _]) (by decide +kernel) (Nat.le_of_ble_eq_true rfl) rfl ?_
  refine kx_iload_n (pc := 0) (kx_dd d_AS_newLength 0 rfl) rfl rfl ?_
  refine kx_iload_n (pc := 1) (kx_dd d_AS_newLength 1 rfl) rfl rfl ?_
  refine kx_iload_n (pc := 2) (kx_dd d_AS_newLength 2 rfl) rfl rfl ?_
  refine kx_mmax (pc := 3) mk_AS_194 (kx_dd d_AS_newLength 3 rfl) (Nat.le_of_ble_eq_true rfl) (Nat.le_of_ble_eq_true rfl) (Nat.le_refl _) (Nat.le_refl _) ?_
  rw [if_pos (nI_lt (by omega) (by omega))]
  refine kx_iadd (pc := 6) (kx_dd d_AS_newLength 4 rfl) ?_
  rw [nI_add]
  refine kx_istore_ne (pc := 7) (lv' := [_, _, _, _]) (kx_dd d_AS_newLength 5 rfl) rfl (Nat.le_of_ble_eq_true rfl) rfl ?_
  refine kx_iconst (pc := 8) (v := 0) (kx_dd d_AS_newLength 6 rfl) rfl ?_
  refine kx_iload_n (pc := 9) (kx_dd d_AS_newLength 7 rfl) rfl rfl ?_
  refine kx_icmp_ge (pc := 10) (tgt := 21) (kx_dd d_AS_newLength 8 rfl) rfl (fun c10 => ?_) (fun c10 => ?_)
  · exact absurd c10 (nI_ge (a := 0) (by omega) (by omega))
  · refine kx_iload_n (pc := 13) (kx_dd d_AS_newLength 9 rfl) rfl rfl ?_
    refine kx_ldc (pc := 14) ki_AS_200 (kx_dd d_AS_newLength 10 rfl) ?_
    refine kx_icmp_gt (pc := 16) (tgt := 21) (kx_dd d_AS_newLength 11 rfl) rfl (fun c16 => ?_) (fun c16 => ?_)
    · exact absurd c16 (fun z => absurd (show (2147483639 : Int32) < nI (c + c / 2) from z) (Int32.not_lt.mpr (Int32.le_of_lt (nI_lt (b := 2147483639) (by omega) (by decide)))))
    · refine kx_iload_n (pc := 19) (kx_dd d_AS_newLength 12 rfl) rfl rfl ?_
      refine kx_iret (pc := 20) rfl (kx_dd d_AS_newLength 13 rfl) (Nat.le_refl _) (Nat.le_refl _) ?_
      exact ⟨rfl, rfl⟩
theorem x_Ar_copyOf1 {l : Launch} {g : kx_G} {d : Nat} {h : kx_Mem} (a0 n0 n1 ci : Nat) {r : vw_C} (hk0 : h.2.2.2.1 a0 = (54, n0)) (hne : a0 ≠ h.2.2.2.2) (hle : n0 ≤ n1) (hn1 : n1 ≤ 1000) (hN : h.2.2.2.2 < 1000000) (hc : kx_cl[ci]? = some r) (hca : Cond.castable r.1 "java/lang/Object" ∈ kx_nw) (hel : ∀ i, i < n0 → ∀ y, h.2.2.1 a0 i = some y → (h.2.2.2.1 y).1 = ci + 1 ∧ y ≠ h.2.2.2.2) : kx_Sp l g m_Ar_copyOf1 [.ref a0, .int (nI n1), .ref 1000202] h (d + 1) 1 n1 (fun v h' => v = some (.ref h.2.2.2.2) ∧ h' = kx_cpR (kx_new h 54 n1) a0 h.2.2.2.2 n0) := by
  refine kx_enter_e (lv := [_, _, _, _]) (by decide +kernel) (Nat.le_of_ble_eq_true rfl) rfl ?_
  refine kx_aload_n (pc := 0) (kx_dd d_Ar_copyOf1 0 rfl) rfl rfl ?_
  refine kx_ldM (pc := 1) rfl (kx_dd d_Ar_copyOf1 1 rfl) ?_
  refine kx_acmp_neF (pc := 3) (tgt := 13) (kx_dd d_Ar_copyOf1 2 rfl) rfl ?_
  refine kx_iload_n (pc := 6) (kx_dd d_Ar_copyOf1 3 rfl) rfl rfl ?_
  refine kx_newR (pc := 7) (N' := n1) kl_lm.2.1 (nI_pos (by omega)) (nI_clamp (by omega)) (by omega) hN (Nat.le_refl _) (Nat.le_of_eq (Nat.zero_add _)) (kx_dd d_Ar_copyOf1 4 rfl) ?_
  refine kx_goto (pc := 10) (tgt := 24) (kx_dd d_Ar_copyOf1 5 rfl) rfl ?_
  refine kx_astore_ne (pc := 24) (lv' := [_, _, _, _]) (kx_dd d_Ar_copyOf1 11 rfl) rfl (Nat.le_of_ble_eq_true rfl) rfl ?_
  refine kx_aload_n (pc := 25) (kx_dd d_Ar_copyOf1 12 rfl) rfl rfl ?_
  refine kx_iconst (pc := 26) (v := 0) (kx_dd d_Ar_copyOf1 13 rfl) rfl ?_
  refine kx_aload_n (pc := 27) (kx_dd d_Ar_copyOf1 14 rfl) rfl rfl ?_
  refine kx_iconst (pc := 28) (v := 0) (kx_dd d_Ar_copyOf1 15 rfl) rfl ?_
  refine kx_aload_n (pc := 29) (kx_dd d_Ar_copyOf1 16 rfl) rfl rfl ?_
  have ha0 : (kx_new h 54 n1).2.2.2.1 a0 = (54, n0) := by
    show (if a0 = h.2.2.2.2 then _ else _) = _
    rw [if_neg hne]; exact hk0
  have ha1 : (kx_new h 54 n1).2.2.2.1 h.2.2.2.2 = (54, n1) := by
    show (if h.2.2.2.2 = h.2.2.2.2 then _ else _) = _
    rw [if_pos rfl]
  refine kx_alen (pc := 30) (v := nI n0) ⟨by rw [ha0]; exact Nat.le_of_ble_eq_true rfl, by rw [ha0]; exact Nat.le_of_ble_eq_true rfl⟩ (by rw [ha0]; rfl) (kx_dd d_Ar_copyOf1 17 rfl) ?_
  refine kx_iload_n (pc := 31) (kx_dd d_Ar_copyOf1 18 rfl) rfl rfl ?_
  refine kx_mmin (pc := 32) mk_Ar_304 (kx_dd d_Ar_copyOf1 19 rfl) (Nat.le_of_ble_eq_true rfl) (Nat.le_of_ble_eq_true rfl) (Nat.le_refl _) (Nat.le_of_eq (Nat.zero_add _)) ?_
  rw [show (if nI n1 < nI n0 then nI n1 else nI n0) = nI n0 from if_neg (fun z => absurd ((nI_ltI (by omega) (by omega)).mp z) (by omega))]
  refine kx_copyR (pc := 35) (ci := ci) (n := n0) rfl ha0 ha1 hN (Nat.le_refl _) hle (by omega) hc hca (fun i hi y hy => ?_) (Nat.le_of_ble_eq_true rfl) (Nat.le_of_ble_eq_true rfl) (kx_dd d_Ar_copyOf1 20 rfl) ?_
  · have hy : (if a0 = h.2.2.2.2 then none else h.2.2.1 a0 i) = some y := hy
    rw [if_neg hne] at hy
    show ((if y = h.2.2.2.2 then _ else _ : Nat × Nat)).1 = _
    have hq := hel i hi y hy
    rw [if_neg hq.2]; exact hq.1
  refine kx_aload_n (pc := 38) (kx_dd d_Ar_copyOf1 21 rfl) rfl rfl ?_
  refine kx_aret (pc := 39) (r := some (h.2.2.2.2)) rfl (Or.inr ⟨_, rfl⟩) (kx_dd d_Ar_copyOf1 22 rfl) (Nat.le_refl _) (Nat.le_of_eq (Nat.zero_add _)) ?_
  exact ⟨rfl, rfl⟩
theorem x_Ar_copyOf0 {l : Launch} {g : kx_G} {d : Nat} {h : kx_Mem} (a0 n0 n1 ci : Nat) {r : vw_C} (hk0 : h.2.2.2.1 a0 = (54, n0)) (hne : a0 ≠ h.2.2.2.2) (hle : n0 ≤ n1) (hn1 : n1 ≤ 1000) (hN : h.2.2.2.2 < 1000000) (hc : kx_cl[ci]? = some r) (hca : Cond.castable r.1 "java/lang/Object" ∈ kx_nw) (hel : ∀ i, i < n0 → ∀ y, h.2.2.1 a0 i = some y → (h.2.2.2.1 y).1 = ci + 1 ∧ y ≠ h.2.2.2.2) : kx_Sp l g m_Ar_copyOf0 [.ref a0, .int (nI n1)] h (d + 2) 1 n1 (fun v h' => v = some (.ref h.2.2.2.2) ∧ h' = kx_cpR (kx_new h 54 n1) a0 h.2.2.2.2 n0) := by
  refine kx_enter_e (lv := [_, _]) (by decide +kernel) (Nat.le_of_ble_eq_true rfl) rfl ?_
  refine kx_aload_n (pc := 0) (kx_dd d_Ar_copyOf0 0 rfl) rfl rfl ?_
  refine kx_iload_n (pc := 1) (kx_dd d_Ar_copyOf0 1 rfl) rfl rfl ?_
  refine kx_aload_n (pc := 2) (kx_dd d_Ar_copyOf0 2 rfl) rfl rfl ?_
  refine kx_getCl (pc := 3) rfl (by rw [hk0]) (Nat.le_of_ble_eq_true rfl) (Nat.le_of_ble_eq_true rfl) (kx_dd d_Ar_copyOf0 3 rfl) ?_
  refine kx_invS (pc := 6) (as := [_, _, _]) (kx_dd d_Ar_copyOf0 4 rfl) ⟨lk_Ar_300, wt_Ar_copyOf1⟩ w_Ar_copyOf1 rfl rfl (Nat.le_of_ble_eq_true rfl) (x_Ar_copyOf1 (d := d) a0 n0 n1 ci hk0 hne hle hn1 hN hc hca hel) (Nat.le_refl _) ⟨Nat.le_refl _, Nat.le_of_eq (Nat.zero_add _)⟩ (fun v h' hq => ?_)
  obtain ⟨rfl, he⟩ := hq
  rw [he]
  clear he
  refine kx_aret (pc := 9) (r := some (h.2.2.2.2)) rfl (Or.inr ⟨_, rfl⟩) (kx_dd d_Ar_copyOf0 5 rfl) (Nat.le_refl _) (Nat.le_of_eq (Nat.zero_add _)) ?_
  exact ⟨rfl, rfl⟩
/-- a list's row is real, or the shared empty one -/
def LSr (n ea cap : Nat) (h : kx_Mem) : Prop := (10 ≤ cap ∧ 154 ≤ ea ∧ ea < h.2.2.2.2 ∧ h.2.2.2.1 ea = (54, cap)) ∨ (n = 0 ∧ cap = 0 ∧ ea = 1000201)
/-- what growing leaves -/
def GrQ (o n ea : Nat) (h : kx_Mem) (v : Option Value) (h' : kx_Mem) : Prop := v = some (.ref h.2.2.2.2) ∧ ∃ cap, 10 ≤ cap ∧ n < cap ∧ cap ≤ 400 ∧ h'.2.2.2.2 = h.2.2.2.2 + 1 ∧ h'.2.2.2.1 h.2.2.2.2 = (54, cap) ∧ h'.2.2.1 o 1 = some h.2.2.2.2 ∧ (∀ j, j < n → h'.2.2.1 h.2.2.2.2 j = h.2.2.1 ea j) ∧ ∀ a, a ≠ h.2.2.2.2 → h'.2.2.2.1 a = h.2.2.2.1 a ∧ ∀ j, h'.1 a j = h.1 a j ∧ h'.2.1 a j = h.2.1 a j ∧ (¬ (a = o ∧ j = 1) → h'.2.2.1 a j = h.2.2.1 a j)
theorem x_AL_grow0a {l : Launch} {g : kx_G} {d : Nat} {h : kx_Mem} (o n ea cap ci : Nat) (ad : Nat → Nat) {r : vw_C} (hko : h.2.2.2.1 o = (1, 0)) (hol : o < 154) (hN0 : 154 ≤ h.2.2.2.2) (hN : h.2.2.2.2 < 1000000) (hl : LSc o n ea cap ad h) (hlr : LSr n ea cap h) (hn : n < 150) (hfull : n = cap) (hc : kx_cl[ci]? = some r) (hca : Cond.castable r.1 "java/lang/Object" ∈ kx_nw) (hel : ∀ i, i < n → (h.2.2.2.1 (ad i)).1 = ci + 1 ∧ ad i < h.2.2.2.2) (h10 : 10 ≤ cap ∧ 154 ≤ ea ∧ ea < h.2.2.2.2 ∧ h.2.2.2.1 ea = (54, cap)) : kx_Sp l g m_AL_grow0 [.ref o, .int (nI (cap + 1))] h (d + 3) 1 400 (fun v h' => GrQ o n ea h v h') := by
  obtain ⟨h10, hea1, hea2, hkea⟩ := h10
  refine kx_enter_e (lv := [_, _, _, _]) (by decide +kernel) (Nat.le_of_ble_eq_true rfl) rfl ?_
  refine kx_aload_n (pc := 0) (kx_dd d_AL_grow0 0 rfl) rfl rfl ?_
  refine kx_getR (pc := 1) (b := ea) fl_AL_9 (by rw [hko]) rfl hl.2.1 (kx_dd d_AL_grow0 1 rfl) ?_
  refine kx_alen (pc := 4) (v := nI cap) ⟨by rw [hkea]; exact Nat.le_of_ble_eq_true rfl, by rw [hkea]; exact Nat.le_of_ble_eq_true rfl⟩ (by rw [hkea]; rfl) (kx_dd d_AL_grow0 2 rfl) ?_
  refine kx_istore_ne (pc := 5) (lv' := [_, _, _, _]) (kx_dd d_AL_grow0 3 rfl) rfl (Nat.le_of_ble_eq_true rfl) rfl ?_
  refine kx_iload_n (pc := 6) (kx_dd d_AL_grow0 4 rfl) rfl rfl ?_
  refine kx_if_gt (pc := 7) (tgt := 20) (kx_dd d_AL_grow0 5 rfl) rfl (fun c7 => ?_) (fun c7 => ?_)
  · refine kx_iload_n (pc := 20) (kx_dd d_AL_grow0 10 rfl) rfl rfl ?_
    refine kx_iload_n (pc := 21) (kx_dd d_AL_grow0 11 rfl) rfl rfl ?_
    refine kx_iload_n (pc := 22) (kx_dd d_AL_grow0 12 rfl) rfl rfl ?_
    refine kx_isub (pc := 23) (kx_dd d_AL_grow0 13 rfl) ?_
    refine kx_iload_n (pc := 24) (kx_dd d_AL_grow0 14 rfl) rfl rfl ?_
    refine kx_iconst (pc := 25) (v := 1) (kx_dd d_AL_grow0 15 rfl) rfl ?_
    refine kx_ishr (pc := 26) (kx_dd d_AL_grow0 16 rfl) ?_
    rw [sh1 cap (by omega), show nI (cap + 1) - nI cap = nI 1 from by rw [pk_sub (by omega), Nat.add_sub_cancel_left]]
    refine kx_invS (pc := 27) (as := [_, _, _]) (kx_dd d_AL_grow0 17 rfl) ⟨lk_AL_73, wt_AS_newLength⟩ w_AS_newLength rfl rfl (Nat.le_of_ble_eq_true rfl) (x_AS_newLength (d := d + 1) cap (by omega) (by omega)) (Nat.le_refl _) ⟨Nat.zero_le _, Nat.zero_le _⟩ (fun v h' hq => ?_)
    obtain ⟨rfl, he⟩ := hq
    rw [he]
    clear he
    refine kx_istore_ne (pc := 30) (lv' := [_, _, _, _]) (kx_dd d_AL_grow0 18 rfl) rfl (Nat.le_of_ble_eq_true rfl) rfl ?_
    refine kx_aload_n (pc := 31) (kx_dd d_AL_grow0 19 rfl) rfl rfl ?_
    refine kx_aload_n (pc := 32) (kx_dd d_AL_grow0 20 rfl) rfl rfl ?_
    refine kx_getR (pc := 33) (b := ea) fl_AL_9 (by rw [hko]) rfl hl.2.1 (kx_dd d_AL_grow0 21 rfl) ?_
    refine kx_iload_n (pc := 36) (kx_dd d_AL_grow0 22 rfl) rfl rfl ?_
    refine kx_invS (pc := 37) (as := [_, _]) (kx_dd d_AL_grow0 23 rfl) ⟨lk_AL_66, wt_Ar_copyOf0⟩ w_Ar_copyOf0 rfl rfl (Nat.le_of_ble_eq_true rfl) (x_Ar_copyOf0 (d := d) ea cap (cap + cap / 2) ci hkea (by omega) (by omega) (by omega) hN hc hca (fun i hi y hy => by have e8 := (hl.2.2.2.2.2 i (by omega)).symm.trans hy; injection e8 with e8; subst e8; have := hel i (by omega); exact ⟨this.1, by omega⟩)) (Nat.le_refl _) ⟨Nat.le_refl _, by show 0 + 0 + (cap + cap / 2) ≤ 400; omega⟩ (fun v h' hq => ?_)
    obtain ⟨rfl, he⟩ := hq
    rw [he]
    clear he
    refine kx_dup_x1 (pc := 40) (kx_dd d_AL_grow0 24 rfl) rfl rfl ?_
    have hko2 : (kx_cpR (kx_new h 54 (cap + cap / 2)) ea h.2.2.2.2 cap).2.2.2.1 o = (1, 0) := by
      show (if o = h.2.2.2.2 then _ else _) = _
      rw [if_neg (by omega)]; exact hko
    refine kx_putR (pc := 41) (v := some h.2.2.2.2) fl_AL_9 (by rw [hko2]) (by omega) rfl rfl (kx_dd d_AL_grow0 25 rfl) ?_
    refine kx_aret (pc := 44) (r := some (h.2.2.2.2)) rfl (Or.inr ⟨_, rfl⟩) (kx_dd d_AL_grow0 26 rfl) (Nat.le_refl _) (by show 0 + 0 + (cap + cap / 2) ≤ 400; omega) ?_
    have n1 : o ≠ h.2.2.2.2 := by omega
    have n2 : ea ≠ h.2.2.2.2 := by omega
    refine ⟨rfl, cap + cap / 2, by omega, by omega, by omega, rfl, ?_, ?_, fun j hj => ?_, fun a ha => ⟨?_, fun j => ⟨?_, ?_, fun hj => ?_⟩⟩⟩
    · simp [kx_setR, kx_cpR, kx_new]
    · simp [kx_setR, kx_up]
    · simp [kx_setR, kx_cpR, kx_new, kx_up, Ne.symm n1, n2, show j < cap by omega]
    · simp [kx_setR, kx_cpR, kx_new, ha]
    · simp [kx_setR, kx_cpR, kx_new, ha]
    · simp [kx_setR, kx_cpR, kx_new, ha]
    · by_cases ho : a = o
      · subst ho
        have hj1 : j ≠ 1 := fun z => hj ⟨rfl, z⟩
        simp [kx_setR, kx_cpR, kx_new, kx_up, ha, hj1]
      · simp [kx_setR, kx_cpR, kx_new, kx_up, ha, ho]
  · exact absurd (nI_lt (a := 0) (show 0 < cap by omega) (by omega)) c7
theorem x_AL_grow0b {l : Launch} {g : kx_G} {d : Nat} {h : kx_Mem} (o n ea cap ci : Nat) (ad : Nat → Nat) {r : vw_C} (hko : h.2.2.2.1 o = (1, 0)) (hol : o < 154) (hN0 : 154 ≤ h.2.2.2.2) (hN : h.2.2.2.2 < 1000000) (hl : LSc o n ea cap ad h) (hlr : LSr n ea cap h) (hn : n < 150) (hfull : n = cap) (hc : kx_cl[ci]? = some r) (hca : Cond.castable r.1 "java/lang/Object" ∈ kx_nw) (hel : ∀ i, i < n → (h.2.2.2.1 (ad i)).1 = ci + 1 ∧ ad i < h.2.2.2.2) (hz : n = 0 ∧ cap = 0 ∧ ea = 1000201) : kx_Sp l g m_AL_grow0 [.ref o, .int (nI (cap + 1))] h (d + 3) 1 400 (fun v h' => GrQ o n ea h v h') := by
  obtain ⟨hz1, hz2, hz3⟩ := hz
  subst hz3
  subst hz2
  refine kx_enter_e (lv := [_, _, _, _]) (by decide +kernel) (Nat.le_of_ble_eq_true rfl) rfl ?_
  refine kx_aload_n (pc := 0) (kx_dd d_AL_grow0 0 rfl) rfl rfl ?_
  refine kx_getR (pc := 1) (b := 1000201) fl_AL_9 (by rw [hko]) rfl hl.2.1 (kx_dd d_AL_grow0 1 rfl) ?_
  refine kx_alen0 (pc := 4) (kx_dd d_AL_grow0 2 rfl) ?_
  refine kx_istore_ne (pc := 5) (lv' := [_, _, _, _]) (kx_dd d_AL_grow0 3 rfl) rfl (Nat.le_of_ble_eq_true rfl) rfl ?_
  refine kx_iload_n (pc := 6) (kx_dd d_AL_grow0 4 rfl) rfl rfl ?_
  refine kx_if_gt (pc := 7) (tgt := 20) (kx_dd d_AL_grow0 5 rfl) rfl (fun c7 => absurd c7 (by decide)) (fun _ => ?_)
  refine kx_aload_n (pc := 10) (kx_dd d_AL_grow0 6 rfl) rfl rfl ?_
  refine kx_getR (pc := 11) (b := 1000201) fl_AL_9 (by rw [hko]) rfl hl.2.1 (kx_dd d_AL_grow0 7 rfl) ?_
  refine kx_get0 (pc := 14) rfl (kx_dd d_AL_grow0 8 rfl) ?_
  refine kx_acmp_eqT (pc := 17) (tgt := 45) (kx_dd d_AL_grow0 9 rfl) rfl ?_
  refine kx_aload_n (pc := 45) (kx_dd d_AL_grow0 27 rfl) rfl rfl ?_
  refine kx_bipush (pc := 46) (v := 10) (kx_dd d_AL_grow0 28 rfl) rfl ?_
  refine kx_iload_n (pc := 48) (kx_dd d_AL_grow0 29 rfl) rfl rfl ?_
  refine kx_mmax (pc := 49) mk_AL_79 (kx_dd d_AL_grow0 30 rfl) (Nat.le_of_ble_eq_true rfl) (Nat.le_of_ble_eq_true rfl) (Nat.zero_le _) (Nat.zero_le _) ?_
  rw [show (if (10 : Int32) < nI (0 + 1) then nI (0 + 1) else 10) = nI 10 from rfl]
  refine kx_newR (pc := 52) (N' := 10) kl_lm.2.2 (nI_pos (by decide)) (nI_clamp (by decide)) (by decide) hN (Nat.le_refl _) (Nat.le_of_ble_eq_true rfl) (kx_dd d_AL_grow0 31 rfl) ?_
  refine kx_dup_x1 (pc := 55) (kx_dd d_AL_grow0 32 rfl) rfl rfl ?_
  have hko2 : (kx_new h 54 10).2.2.2.1 o = (1, 0) := by
    show (if o = h.2.2.2.2 then _ else _) = _
    rw [if_neg (by omega)]; exact hko
  refine kx_putR (pc := 56) (v := some h.2.2.2.2) fl_AL_9 (by rw [hko2]) (by omega) rfl rfl (kx_dd d_AL_grow0 33 rfl) ?_
  refine kx_aret (pc := 59) (r := some (h.2.2.2.2)) rfl (Or.inr ⟨_, rfl⟩) (kx_dd d_AL_grow0 34 rfl) (Nat.le_refl _) (Nat.le_of_ble_eq_true rfl) ?_
  have n1 : o ≠ h.2.2.2.2 := by omega
  refine ⟨rfl, 10, by omega, by omega, by omega, rfl, ?_, ?_, fun j hj => absurd hj (by omega), fun a ha => ⟨?_, fun j => ⟨?_, ?_, fun hj => ?_⟩⟩⟩
  · simp [kx_setR, kx_new]
  · simp [kx_setR, kx_up]
  · simp [kx_setR, kx_new, ha]
  · simp [kx_setR, kx_new, ha]
  · simp [kx_setR, kx_new, ha]
  · by_cases ho : a = o
    · subst ho
      have hj1 : j ≠ 1 := fun z => hj ⟨rfl, z⟩
      simp [kx_setR, kx_new, kx_up, ha, hj1]
    · simp [kx_setR, kx_new, kx_up, ha, ho]
theorem x_AL_grow0 {l : Launch} {g : kx_G} {d : Nat} {h : kx_Mem} (o n ea cap ci : Nat) (ad : Nat → Nat) {r : vw_C} (hko : h.2.2.2.1 o = (1, 0)) (hol : o < 154) (hN0 : 154 ≤ h.2.2.2.2) (hN : h.2.2.2.2 < 1000000) (hl : LSc o n ea cap ad h) (hlr : LSr n ea cap h) (hn : n < 150) (hfull : n = cap) (hc : kx_cl[ci]? = some r) (hca : Cond.castable r.1 "java/lang/Object" ∈ kx_nw) (hel : ∀ i, i < n → (h.2.2.2.1 (ad i)).1 = ci + 1 ∧ ad i < h.2.2.2.2) : kx_Sp l g m_AL_grow0 [.ref o, .int (nI (n + 1))] h (d + 3) 1 400 (fun v h' => GrQ o n ea h v h') := by
  have e : nI (n + 1) = nI (cap + 1) := by rw [hfull]
  rw [e]
  rcases id hlr with z | z
  · exact x_AL_grow0a o n ea cap ci ad hko hol hN0 hN hl hlr hn hfull hc hca hel z
  · exact x_AL_grow0b o n ea cap ci ad hko hol hN0 hN hl hlr hn hfull hc hca hel z
theorem x_AL_grow1 {l : Launch} {g : kx_G} {d : Nat} {h : kx_Mem} (o n ea cap ci : Nat) (ad : Nat → Nat) {r : vw_C} (hko : h.2.2.2.1 o = (1, 0)) (hol : o < 154) (hN0 : 154 ≤ h.2.2.2.2) (hN : h.2.2.2.2 < 1000000) (hl : LSc o n ea cap ad h) (hlr : LSr n ea cap h) (hn : n < 150) (hfull : n = cap) (hc : kx_cl[ci]? = some r) (hca : Cond.castable r.1 "java/lang/Object" ∈ kx_nw) (hel : ∀ i, i < n → (h.2.2.2.1 (ad i)).1 = ci + 1 ∧ ad i < h.2.2.2.2) : kx_Sp l g m_AL_grow1 [.ref o] h (d + 4) 1 400 (fun v h' => GrQ o n ea h v h') := by
  refine kx_enter_e (lv := [_]) (by decide +kernel) (Nat.le_of_ble_eq_true rfl) rfl ?_
  refine kx_aload_n (pc := 0) (kx_dd d_AL_grow1 0 rfl) rfl rfl ?_
  refine kx_aload_n (pc := 1) (kx_dd d_AL_grow1 1 rfl) rfl rfl ?_
  refine kx_getI (pc := 2) fl_AL_48 (by rw [hko]) rfl (kx_dd d_AL_grow1 2 rfl) ?_
  refine kx_iconst (pc := 5) (v := 1) (kx_dd d_AL_grow1 3 rfl) rfl ?_
  refine kx_iadd (pc := 6) (kx_dd d_AL_grow1 4 rfl) ?_
  rw [hl.1, nI_1]
  refine kx_invV (pc := 7) (a := o) (as := [_]) (kx_dd d_AL_grow1 5 rfl) ⟨lk_AL_69, wi_AL_grow0, we_AL_grow0⟩ w_AL_grow0 (by rw [hko]) rfl rfl rfl rfl (Nat.le_of_ble_eq_true rfl) (x_AL_grow0 (d := d) o n ea cap ci ad hko hol hN0 hN hl hlr hn hfull hc hca hel) (Nat.le_refl _) ⟨Nat.le_refl _, Nat.le_refl _⟩ (fun v h' hq => ?_)
  revert h'
  intro h1 hq
  have hv := hq.1
  subst hv
  refine kx_aret (pc := 10) (r := some (h.2.2.2.2)) rfl (Or.inr ⟨_, rfl⟩) (kx_dd d_AL_grow1 6 rfl) (Nat.le_refl _) (Nat.le_refl _) ?_
  exact hq
/-- what adding leaves -/
def AdQ (o n ea y : Nat) (ad : Nat → Nat) (h h' : kx_Mem) : Prop := ∃ ea' cap', LSc o (n + 1) ea' cap' (upF ad n y) h' ∧ LSr (n + 1) ea' cap' h' ∧ (ea' = ea ∨ ea' = h.2.2.2.2) ∧ h.2.2.2.2 ≤ h'.2.2.2.2 ∧ h'.2.2.2.2 ≤ h.2.2.2.2 + 1 ∧ ∀ a, (a < h.2.2.2.2 ∨ 1000000 ≤ a) → h'.2.2.2.1 a = h.2.2.2.1 a ∧ ∀ j, (¬ (a = o ∧ (j = 0 ∨ j = 2)) → h'.1 a j = h.1 a j) ∧ h'.2.1 a j = h.2.1 a j ∧ (¬ (a = o ∧ j = 1) → ¬ (a = ea ∧ j = n) → h'.2.2.1 a j = h.2.2.1 a j)
