/-! the class: new claims and papers, Docket.file, Docket.bring -/
theorem oi_2 : Cond.instanceMethod objectInit ∈ kx_good := kx_in 37 (by decide +kernel) rfl
theorem oi_3 : Cond.code objectInit ⟨#[0xb1]⟩ 1 none ∈ kx_good := kx_in 38 (by decide +kernel) rfl
theorem oi_Cl : Cond.methodLink "TreatyClaims$Claim" 3 objectInit ∈ kx_good := kx_in 816 (by decide +kernel) rfl
theorem oi_Pa : Cond.methodLink "TreatyClaims$Paper" 1 objectInit ∈ kx_good := kx_in 994 (by decide +kernel) rfl
/-- a frame that lets new objects be -/
def kx_Gw (P L Z : Nat → Nat → Prop) (h h' : kx_Mem) : Prop := h.2.2.2.2 ≤ h'.2.2.2.2 ∧ ∀ a, (a < h.2.2.2.2 ∨ 1000000 ≤ a) → h'.2.2.2.1 a = h.2.2.2.1 a ∧ ∀ j, (¬ P a j → h'.1 a j = h.1 a j) ∧ (¬ L a j → h'.2.1 a j = h.2.1 a j) ∧ (¬ Z a j → h'.2.2.1 a j = h.2.2.1 a j)
theorem kx_Gw.rf {P L Z : Nat → Nat → Prop} {h : kx_Mem} : kx_Gw P L Z h h := ⟨Nat.le_refl _, fun _ _ => ⟨rfl, fun _ => ⟨fun _ => rfl, fun _ => rfl, fun _ => rfl⟩⟩⟩
theorem kx_Gw.tr {P L Z : Nat → Nat → Prop} {h h1 h2 : kx_Mem} (a : kx_Gw P L Z h h1) (b : kx_Gw P L Z h1 h2) : kx_Gw P L Z h h2 := ⟨Nat.le_trans a.1 b.1, fun x hx => by
  have hx1 : x < h1.2.2.2.2 ∨ 1000000 ≤ x := by have := a.1; omega
  exact ⟨((b.2 x hx1).1).trans (a.2 x hx).1, fun j => ⟨fun z => (((b.2 x hx1).2 j).1 z).trans (((a.2 x hx).2 j).1 z), fun z => (((b.2 x hx1).2 j).2.1 z).trans (((a.2 x hx).2 j).2.1 z), fun z => (((b.2 x hx1).2 j).2.2 z).trans (((a.2 x hx).2 j).2.2 z)⟩⟩⟩
theorem kx_Gw.mono {P L Z P' L' Z' : Nat → Nat → Prop} {h h1 : kx_Mem} (a : kx_Gw P L Z h h1) (hP : ∀ a j, P a j → P' a j) (hL : ∀ a j, L a j → L' a j) (hZ : ∀ a j, Z a j → Z' a j) : kx_Gw P' L' Z' h h1 := ⟨a.1, fun x hx => ⟨(a.2 x hx).1, fun j => ⟨fun z => ((a.2 x hx).2 j).1 (fun y => z (hP x j y)), fun z => ((a.2 x hx).2 j).2.1 (fun y => z (hL x j y)), fun z => ((a.2 x hx).2 j).2.2 (fun y => z (hZ x j y))⟩⟩⟩
theorem kx_Fg.gw {P L Z : Nat → Nat → Prop} {h h' : kx_Mem} (a : kx_Fg P L h h') : kx_Gw P L Z h h' := ⟨by rw [a.2.2]; exact Nat.le_refl _, fun x _ => ⟨by rw [a.2.2], fun j => ⟨a.1 x j, a.2.1 x j, fun _ => by rw [a.2.2]⟩⟩⟩
theorem kx_Gw.new {P L Z : Nat → Nat → Prop} {h : kx_Mem} {k len : Nat} (hN : h.2.2.2.2 < 1000000) : kx_Gw P L Z h (kx_new h k len) := ⟨Nat.le_succ _, fun x hx => by
  have hne : x ≠ h.2.2.2.2 := by omega
  exact ⟨by show (if x = h.2.2.2.2 then _ else _) = _; rw [if_neg hne], fun j => ⟨fun _ => by show (if x = h.2.2.2.2 then _ else _) = _; rw [if_neg hne], fun _ => by show (if x = h.2.2.2.2 then _ else _) = _; rw [if_neg hne], fun _ => by show (if x = h.2.2.2.2 then _ else _) = _; rw [if_neg hne]⟩⟩⟩
theorem kx_SS.gw {R T : List (Nat × Nat × Nat)} {P L Z : Nat → Nat → Prop} {h h' : kx_Mem} (hs : kx_SS R T h) (hf : kx_Gw P L Z h h') (hN : 154 ≤ h.2.2.2.2) (hR : ∀ q ∈ R, q.1 < 154 ∧ ¬ Z q.1 q.2.1) (hT : ∀ q ∈ T, q.1 < 154) : kx_SS R T h' := ⟨fun q hq => by rw [((hf.2 q.1 (by have := (hR q hq).1; omega)).2 q.2.1).2.2 (hR q hq).2]; exact hs.1 q hq, fun q hq => by rw [(hf.2 q.1 (by have := hT q hq; omega)).1]; exact hs.2 q hq⟩
def FcP (a j : Nat) : Prop := (a = 1 ∧ 1 ≤ j ∧ j ≤ 5) ∨ ((a = 40 ∨ a = 41) ∧ (j = 0 ∨ j = 2))
def FcZ (a j : Nat) : Prop := ((a = 40 ∨ a = 41) ∧ j = 1) ∨ 154 ≤ a
theorem rC_z : ∀ q ∈ rC, q.1 < 154 ∧ ¬ FcZ q.1 q.2.1 := by
  have h : rC.all (fun q => decide (q.1 < 154) && !((q.1 == 40 || q.1 == 41) && q.2.1 == 1)) = true := by decide +kernel
  intro q hq
  have := List.all_eq_true.mp h q hq
  simp at this
  unfold FcZ
  omega
theorem rM_z : ∀ q ∈ rM, q.1 < 154 ∧ ¬ FcZ q.1 q.2.1 := by
  have h : rM.all (fun q => decide (q.1 < 154) && !((q.1 == 40 || q.1 == 41) && q.2.1 == 1)) = true := by decide +kernel
  intro q hq
  have := List.all_eq_true.mp h q hq
  simp at this
  unfold FcZ
  omega
theorem tC_z : ∀ q ∈ tC, q.1 < 154 := fun q hq => of_decide_eq_true (List.all_eq_true.mp (show tC.all (fun q => decide (q.1 < 154)) = true by decide +kernel) q hq)
theorem tM_z : ∀ q ∈ tM, q.1 < 154 := fun q hq => of_decide_eq_true (List.all_eq_true.mp (show tM.all (fun q => decide (q.1 < 154)) = true by decide +kernel) q hq)
theorem AdQ.gw {o n ea y : Nat} {ad : Nat → Nat} {h h' : kx_Mem} (k : AdQ o n ea y ad h h') (ho : o = 40 ∨ o = 41) (he : 154 ≤ ea) : kx_Gw FcP FtL FcZ h h' := by
  obtain ⟨ea1, cap1, k1, k2, k3, k4, k5, k6⟩ := k
  exact ⟨k4, fun a ha => ⟨(k6 a ha).1, fun j => ⟨fun z => ((k6 a ha).2 j).1 (fun q => z (by unfold FcP; omega)), fun _ => ((k6 a ha).2 j).2.1, fun z => ((k6 a ha).2 j).2.2 (fun q => z (by unfold FcZ; omega)) (fun q => z (by unfold FcZ; omega))⟩⟩⟩
theorem LSr.ge {n ea cap : Nat} {h : kx_Mem} (k : LSr n ea cap h) : 154 ≤ ea := by rcases k with k | k <;> omega
theorem x_Cl_init {l : Launch} {g : kx_G} {d : Nat} {h : kx_Mem} (o a b c e m t : Nat) (w : Int64) (hko : h.2.2.2.1 o = (2, 0)) (hol : o < 1000000) (hz : ∀ j, h.1 o j = 0) : kx_Sp l g m_Cl_init [.ref o, .int (nI a), .int (nI b), .int (nI c), .int (nI e), .int (nI m), .int (nI t), .long w] h (d + 1) 0 0 (fun v h' => v = none ∧ h'.2.2 = h.2.2 ∧ (∀ x j, x ≠ o → h'.1 x j = h.1 x j ∧ h'.2.1 x j = h.2.1 x j) ∧ (∀ j, j ≠ 6 → h'.1 o j = newF a b c e m t j) ∧ h'.2.1 o 6 = w) := by
  refine kx_enter_e (lv := [_, _, _, _, _, _, _, _, _]) (by decide +kernel) (Nat.le_of_ble_eq_true rfl) rfl ?_
  refine kx_aload_n (pc := 0) (kx_dd d_Cl_init 0 rfl) rfl rfl ?_
  refine kx_objInit (pc := 1) oi_Cl oi_2 oi_3 (kx_dd d_Cl_init 1 rfl) (Nat.le_of_ble_eq_true rfl) (Nat.le_of_ble_eq_true rfl) ?_
  refine kx_aload_n (pc := 4) (kx_dd d_Cl_init 2 rfl) rfl rfl ?_
  refine kx_iconst (pc := 5) (v := 0) (kx_dd d_Cl_init 3 rfl) rfl ?_
  refine kx_putI (pc := 6) fl_Cl_11 (congrArg Prod.fst hko) hol rfl rfl (kx_dd d_Cl_init 4 rfl) ?_
  refine kx_aload_n (pc := 9) (kx_dd d_Cl_init 5 rfl) rfl rfl ?_
  refine kx_iconst (pc := 10) (v := -1) (kx_dd d_Cl_init 6 rfl) rfl ?_
  refine kx_putI (pc := 11) fl_Cl_15 (congrArg Prod.fst hko) hol rfl rfl (kx_dd d_Cl_init 7 rfl) ?_
  refine kx_aload_n (pc := 14) (kx_dd d_Cl_init 8 rfl) rfl rfl ?_
  refine kx_iload_n (pc := 15) (kx_dd d_Cl_init 9 rfl) rfl rfl ?_
  refine kx_putI (pc := 16) fl_Cl_18 (congrArg Prod.fst hko) hol rfl rfl (kx_dd d_Cl_init 10 rfl) ?_
  refine kx_aload_n (pc := 19) (kx_dd d_Cl_init 11 rfl) rfl rfl ?_
  refine kx_iload_n (pc := 20) (kx_dd d_Cl_init 12 rfl) rfl rfl ?_
  refine kx_putI (pc := 21) fl_Cl_21 (congrArg Prod.fst hko) hol rfl rfl (kx_dd d_Cl_init 13 rfl) ?_
  refine kx_aload_n (pc := 24) (kx_dd d_Cl_init 14 rfl) rfl rfl ?_
  refine kx_iload_n (pc := 25) (kx_dd d_Cl_init 15 rfl) rfl rfl ?_
  refine kx_putI (pc := 26) fl_Cl_24 (congrArg Prod.fst hko) hol rfl rfl (kx_dd d_Cl_init 16 rfl) ?_
  refine kx_aload_n (pc := 29) (kx_dd d_Cl_init 17 rfl) rfl rfl ?_
  refine kx_iload (pc := 30) (kx_dd d_Cl_init 18 rfl) rfl ?_
  refine kx_putI (pc := 32) fl_Cl_27 (congrArg Prod.fst hko) hol rfl rfl (kx_dd d_Cl_init 19 rfl) ?_
  refine kx_aload_n (pc := 35) (kx_dd d_Cl_init 20 rfl) rfl rfl ?_
  refine kx_iload (pc := 36) (kx_dd d_Cl_init 21 rfl) rfl ?_
  refine kx_putI (pc := 38) fl_Cl_30 (congrArg Prod.fst hko) hol rfl rfl (kx_dd d_Cl_init 22 rfl) ?_
  refine kx_aload_n (pc := 41) (kx_dd d_Cl_init 23 rfl) rfl rfl ?_
  refine kx_iload (pc := 42) (kx_dd d_Cl_init 24 rfl) rfl ?_
  refine kx_putI (pc := 44) fl_Cl_33 (congrArg Prod.fst hko) hol rfl rfl (kx_dd d_Cl_init 25 rfl) ?_
  refine kx_aload_n (pc := 47) (kx_dd d_Cl_init 26 rfl) rfl rfl ?_
  refine kx_lload (pc := 48) (kx_dd d_Cl_init 27 rfl) rfl ?_
  refine kx_putL (pc := 50) fl_Cl_36 (congrArg Prod.fst hko) hol rfl rfl (kx_dd d_Cl_init 28 rfl) ?_
  refine kx_vret (pc := 53) rfl (kx_dd d_Cl_init 29 rfl) (Nat.le_refl _) (Nat.le_refl _) ?_
  refine ⟨rfl, rfl, fun x j hx => ⟨?_, ?_⟩, fun j hj => ?_, ?_⟩
  · simp [kx_setL, kx_setI, kx_up, hx]
  · simp [kx_setL, kx_setI, kx_up, hx]
  · unfold newF
    by_cases j0 : j = 0
    · subst j0; simp [kx_setL, kx_setI, kx_up, hz]
    · skip
      by_cases j1 : j = 1
      · subst j1; simp [kx_setL, kx_setI, kx_up, hz]
      · skip
        by_cases j2 : j = 2
        · subst j2; simp [kx_setL, kx_setI, kx_up, hz]
        · skip
          by_cases j3 : j = 3
          · subst j3; simp [kx_setL, kx_setI, kx_up, hz]
          · skip
            by_cases j4 : j = 4
            · subst j4; simp [kx_setL, kx_setI, kx_up, hz]
            · skip
              by_cases j5 : j = 5
              · subst j5; simp [kx_setL, kx_setI, kx_up, hz]
              · skip
                by_cases j8 : j = 8
                · subst j8; simp [kx_setL, kx_setI, kx_up, hz]
                · skip
                  by_cases j12 : j = 12
                  · subst j12; simp [kx_setL, kx_setI, kx_up, hz]
                  · skip
                    simp [kx_setL, kx_setI, kx_up, hz, j0, j1, j2, j3, j4, j5, j8, j12]
  · simp [kx_setL, kx_setI, kx_up]
theorem x_Pa_init {l : Launch} {g : kx_G} {d : Nat} {h : kx_Mem} (o a : Nat) (w : Int64) (i y t : Int32) (hko : h.2.2.2.1 o = (5, 0)) (hol : o < 1000000) : kx_Sp l g m_Pa_init [.ref o, .ref a, .long w, .int i, .int y, .int t] h (d + 1) 0 0 (fun v h' => v = none ∧ h'.2.2.2 = h.2.2.2 ∧ (∀ x j, x ≠ o → h'.1 x j = h.1 x j ∧ h'.2.1 x j = h.2.1 x j ∧ h'.2.2.1 x j = h.2.2.1 x j) ∧ h'.2.2.1 o 0 = some a ∧ h'.2.1 o 1 = w ∧ h'.1 o 2 = i ∧ h'.1 o 3 = y ∧ h'.1 o 4 = t) := by
  refine kx_enter_e (lv := [_, _, _, _, _, _, _]) (by decide +kernel) (Nat.le_of_ble_eq_true rfl) rfl ?_
  refine kx_aload_n (pc := 0) (kx_dd d_Pa_init 0 rfl) rfl rfl ?_
  refine kx_objInit (pc := 1) oi_Pa oi_2 oi_3 (kx_dd d_Pa_init 1 rfl) (Nat.le_of_ble_eq_true rfl) (Nat.le_of_ble_eq_true rfl) ?_
  refine kx_aload_n (pc := 4) (kx_dd d_Pa_init 2 rfl) rfl rfl ?_
  refine kx_aload_n (pc := 5) (kx_dd d_Pa_init 3 rfl) rfl rfl ?_
  refine kx_putR (pc := 6) (v := some (a)) fl_Pa_7 (congrArg Prod.fst hko) hol rfl rfl (kx_dd d_Pa_init 4 rfl) ?_
  refine kx_aload_n (pc := 9) (kx_dd d_Pa_init 5 rfl) rfl rfl ?_
  refine kx_lload_n (pc := 10) (kx_dd d_Pa_init 6 rfl) rfl rfl ?_
  refine kx_putL (pc := 11) fl_Pa_13 (congrArg Prod.fst hko) hol rfl rfl (kx_dd d_Pa_init 7 rfl) ?_
  refine kx_aload_n (pc := 14) (kx_dd d_Pa_init 8 rfl) rfl rfl ?_
  refine kx_iload (pc := 15) (kx_dd d_Pa_init 9 rfl) rfl ?_
  refine kx_putI (pc := 17) fl_Pa_17 (congrArg Prod.fst hko) hol rfl rfl (kx_dd d_Pa_init 10 rfl) ?_
  refine kx_aload_n (pc := 20) (kx_dd d_Pa_init 11 rfl) rfl rfl ?_
  refine kx_iload (pc := 21) (kx_dd d_Pa_init 12 rfl) rfl ?_
  refine kx_putI (pc := 23) fl_Pa_21 (congrArg Prod.fst hko) hol rfl rfl (kx_dd d_Pa_init 13 rfl) ?_
  refine kx_aload_n (pc := 26) (kx_dd d_Pa_init 14 rfl) rfl rfl ?_
  refine kx_iload (pc := 27) (kx_dd d_Pa_init 15 rfl) rfl ?_
  refine kx_putI (pc := 29) fl_Pa_24 (congrArg Prod.fst hko) hol rfl rfl (kx_dd d_Pa_init 16 rfl) ?_
  refine kx_vret (pc := 32) rfl (kx_dd d_Pa_init 17 rfl) (Nat.le_refl _) (Nat.le_refl _) ?_
  refine ⟨rfl, rfl, fun x j hx => ⟨?_, ?_, ?_⟩, ?_, ?_, ?_, ?_, ?_⟩
  · simp [kx_setL, kx_setI, kx_setR, kx_up, hx]
  · simp [kx_setL, kx_setI, kx_setR, kx_up, hx]
  · simp [kx_setL, kx_setI, kx_setR, kx_up, hx]
  · simp [kx_setL, kx_setI, kx_setR, kx_up]
  · simp [kx_setL, kx_setI, kx_setR, kx_up]
  · simp [kx_setL, kx_setI, kx_setR, kx_up]
  · simp [kx_setL, kx_setI, kx_setR, kx_up]
  · simp [kx_setL, kx_setI, kx_setR, kx_up]
theorem x_Do_file {l : Launch} {g : kx_G} {d : Nat} {h : kx_Mem} (hs : SC h) (n ea cap : Nat) (ad : Nat → Nat) (hN0 : 154 ≤ h.2.2.2.2) (hN : h.2.2.2.2 < 1000000) (hl : LSc 40 n ea cap ad h) (hlr : LSr n ea cap h) (hn : n ≤ 60) (hel : ∀ i, i < n → (h.2.2.2.1 (ad i)).1 = 2 ∧ ad i < h.2.2.2.2) (y : Nat) (hky : (h.2.2.2.1 y).1 = 2) (hyl : y < h.2.2.2.2) : kx_Sp l g m_Do_file [.ref 39, .ref y] h (d + 7) 1 400 (fun v h' => (n = 60 ∧ v = some (.int (-3)) ∧ h' = h) ∨ (n < 60 ∧ v = some (.int (nI n)) ∧ AdQ 40 n ea y ad h h')) := by
  refine kx_enter_e (lv := [_, _]) (by decide +kernel) (Nat.le_of_ble_eq_true rfl) rfl ?_
  refine kx_aload_n (pc := 0) (kx_dd d_Do_file 0 rfl) rfl rfl ?_
  refine kx_getR (pc := 1) (b := 40) fl_Do_12 (hs.k 39 rfl) rfl (hs.r 43 rfl) (kx_dd d_Do_file 1 rfl) ?_
  refine kx_invV (pc := 4) (a := 40) (as := []) (kx_dd d_Do_file 2 rfl) ⟨lk_Do_29, wi_AL_size, we_AL_size⟩ w_AL_size (hs.k 40 rfl) rfl rfl rfl rfl (Nat.le_of_ble_eq_true rfl) (x_AL_size (d := d + 6) 40 n ea cap ad (DKc.k40 hs).1 hl) (Nat.le_refl _) ⟨Nat.zero_le _, Nat.zero_le _⟩ (fun v h' hq => ?_)
  obtain ⟨rfl, he⟩ := hq
  rw [he]
  clear he
  refine kx_bipush (pc := 7) (v := 60) (kx_dd d_Do_file 3 rfl) rfl ?_
  rw [show (60 : Int32) = nI 60 from rfl]
  refine kx_icmp_lt (pc := 9) (tgt := 15) (kx_dd d_Do_file 4 rfl) rfl (fun c9 => ?_) (fun c9 => ?_)
  · refine kx_aload_n (pc := 15) (kx_dd d_Do_file 7 rfl) rfl rfl ?_
    refine kx_getR (pc := 16) (b := 40) fl_Do_12 (hs.k 39 rfl) rfl (hs.r 43 rfl) (kx_dd d_Do_file 8 rfl) ?_
    refine kx_aload_n (pc := 19) (kx_dd d_Do_file 9 rfl) rfl rfl ?_
    rw [nI_ltI (by omega) (by decide)] at c9
    refine kx_invV (pc := 20) (a := 40) (as := [_]) (kx_dd d_Do_file 10 rfl) ⟨lk_Do_41, wi_AL_add1, we_AL_add1⟩ w_AL_add1 (hs.k 40 rfl) rfl rfl rfl rfl (Nat.le_of_ble_eq_true rfl) (x_AL_add1 (d := d) 40 n ea cap 1 ad (r := (kx_C1, kx_T1, 18)) (DKc.k40 hs).1 (by decide) hN0 hN hl hlr (by omega) rfl kn_C hel y hky hyl) (Nat.le_refl _) ⟨Nat.le_refl _, Nat.le_refl _⟩ (fun v h' hq => ?_)
    revert h'
    intro h1 hq
    obtain ⟨rfl, hq⟩ := hq
    have hs : SC h1 := hs.gw (hq.gw (by decide) hlr.ge) hN0 rC_z tC_z
    obtain ⟨ea1, cap1, k1, k2⟩ := id hq
    refine kx_pop (pc := 23) (kx_dd d_Do_file 11 rfl) rfl ?_
    refine kx_aload_n (pc := 24) (kx_dd d_Do_file 12 rfl) rfl rfl ?_
    refine kx_getR (pc := 25) (b := 40) fl_Do_12 (hs.k 39 rfl) rfl (hs.r 43 rfl) (kx_dd d_Do_file 13 rfl) ?_
    refine kx_invV (pc := 28) (a := 40) (as := []) (kx_dd d_Do_file 14 rfl) ⟨lk_Do_29, wi_AL_size, we_AL_size⟩ w_AL_size (hs.k 40 rfl) rfl rfl rfl rfl (Nat.le_of_ble_eq_true rfl) (x_AL_size (d := d + 6) 40 (n + 1) ea1 cap1 _ (DKc.k40 hs).1 k1) (Nat.le_refl _) ⟨Nat.le_refl _, Nat.le_refl _⟩ (fun v h' hq => ?_)
    obtain ⟨rfl, he⟩ := hq
    rw [he]
    clear he
    refine kx_iconst (pc := 31) (v := 1) (kx_dd d_Do_file 15 rfl) rfl ?_
    refine kx_isub (pc := 32) (kx_dd d_Do_file 16 rfl) ?_
    refine kx_iret (pc := 33) rfl (kx_dd d_Do_file 17 rfl) (Nat.le_of_ble_eq_true rfl) (Nat.le_of_ble_eq_true rfl) ?_
    refine Or.inr ⟨c9, ?_, hq⟩
    rw [show (1 : Int32) = nI 1 from rfl, pk_sub (by omega), Nat.add_sub_cancel]
  · refine kx_bipush (pc := 12) (v := -3) (kx_dd d_Do_file 5 rfl) rfl ?_
    refine kx_iret (pc := 14) rfl (kx_dd d_Do_file 6 rfl) (Nat.le_of_ble_eq_true rfl) (Nat.le_of_ble_eq_true rfl) ?_
    rw [nI_ltI (by omega) (by decide)] at c9
    exact Or.inl ⟨by omega, rfl, rfl⟩
theorem x_Do_bring {l : Launch} {g : kx_G} {d : Nat} {h : kx_Mem} (hs : SC h) (n ea cap : Nat) (ad : Nat → Nat) (hN0 : 154 ≤ h.2.2.2.2) (hN : h.2.2.2.2 < 1000000) (hl : LSc 41 n ea cap ad h) (hlr : LSr n ea cap h) (hn : n ≤ 150) (hel : ∀ i, i < n → (h.2.2.2.1 (ad i)).1 = 5 ∧ ad i < h.2.2.2.2) (y : Nat) (hky : (h.2.2.2.1 y).1 = 5) (hyl : y < h.2.2.2.2) : kx_Sp l g m_Do_bring [.ref 39, .ref y] h (d + 7) 1 400 (fun v h' => (n = 150 ∧ v = some (.int (-3)) ∧ h' = h) ∨ (n < 150 ∧ v = some (.int (nI n)) ∧ AdQ 41 n ea y ad h h')) := by
  refine kx_enter_e (lv := [_, _]) (by decide +kernel) (Nat.le_of_ble_eq_true rfl) rfl ?_
  refine kx_aload_n (pc := 0) (kx_dd d_Do_bring 0 rfl) rfl rfl ?_
  refine kx_getR (pc := 1) (b := 41) fl_Do_18 (hs.k 39 rfl) rfl (hs.r 44 rfl) (kx_dd d_Do_bring 1 rfl) ?_
  refine kx_invV (pc := 4) (a := 41) (as := []) (kx_dd d_Do_bring 2 rfl) ⟨lk_Do_29, wi_AL_size, we_AL_size⟩ w_AL_size (hs.k 41 rfl) rfl rfl rfl rfl (Nat.le_of_ble_eq_true rfl) (x_AL_size (d := d + 6) 41 n ea cap ad (DKc.k40 hs).2 hl) (Nat.le_refl _) ⟨Nat.zero_le _, Nat.zero_le _⟩ (fun v h' hq => ?_)
  obtain ⟨rfl, he⟩ := hq
  rw [he]
  clear he
  refine kx_sipush (pc := 7) (v := 150) (kx_dd d_Do_bring 3 rfl) rfl ?_
  rw [show (150 : Int32) = nI 150 from rfl]
  refine kx_icmp_lt (pc := 10) (tgt := 16) (kx_dd d_Do_bring 4 rfl) rfl (fun c10 => ?_) (fun c10 => ?_)
  · refine kx_aload_n (pc := 16) (kx_dd d_Do_bring 7 rfl) rfl rfl ?_
    refine kx_getR (pc := 17) (b := 41) fl_Do_18 (hs.k 39 rfl) rfl (hs.r 44 rfl) (kx_dd d_Do_bring 8 rfl) ?_
    refine kx_aload_n (pc := 20) (kx_dd d_Do_bring 9 rfl) rfl rfl ?_
    rw [nI_ltI (by omega) (by decide)] at c10
    refine kx_invV (pc := 21) (a := 41) (as := [_]) (kx_dd d_Do_bring 10 rfl) ⟨lk_Do_41, wi_AL_add1, we_AL_add1⟩ w_AL_add1 (hs.k 41 rfl) rfl rfl rfl rfl (Nat.le_of_ble_eq_true rfl) (x_AL_add1 (d := d) 41 n ea cap 4 ad (r := (kx_C4, kx_T4, 5)) (DKc.k40 hs).2 (by decide) hN0 hN hl hlr (by omega) rfl kn_P hel y hky hyl) (Nat.le_refl _) ⟨Nat.le_refl _, Nat.le_refl _⟩ (fun v h' hq => ?_)
    revert h'
    intro h1 hq
    obtain ⟨rfl, hq⟩ := hq
    have hs : SC h1 := hs.gw (hq.gw (by decide) hlr.ge) hN0 rC_z tC_z
    obtain ⟨ea1, cap1, k1, k2⟩ := id hq
    refine kx_pop (pc := 24) (kx_dd d_Do_bring 11 rfl) rfl ?_
    refine kx_aload_n (pc := 25) (kx_dd d_Do_bring 12 rfl) rfl rfl ?_
    refine kx_getR (pc := 26) (b := 41) fl_Do_18 (hs.k 39 rfl) rfl (hs.r 44 rfl) (kx_dd d_Do_bring 13 rfl) ?_
    refine kx_invV (pc := 29) (a := 41) (as := []) (kx_dd d_Do_bring 14 rfl) ⟨lk_Do_29, wi_AL_size, we_AL_size⟩ w_AL_size (hs.k 41 rfl) rfl rfl rfl rfl (Nat.le_of_ble_eq_true rfl) (x_AL_size (d := d + 6) 41 (n + 1) ea1 cap1 _ (DKc.k40 hs).2 k1) (Nat.le_refl _) ⟨Nat.le_refl _, Nat.le_refl _⟩ (fun v h' hq => ?_)
    obtain ⟨rfl, he⟩ := hq
    rw [he]
    clear he
    refine kx_iconst (pc := 32) (v := 1) (kx_dd d_Do_bring 15 rfl) rfl ?_
    refine kx_isub (pc := 33) (kx_dd d_Do_bring 16 rfl) ?_
    refine kx_iret (pc := 34) rfl (kx_dd d_Do_bring 17 rfl) (Nat.le_of_ble_eq_true rfl) (Nat.le_of_ble_eq_true rfl) ?_
    refine Or.inr ⟨c10, ?_, hq⟩
    rw [show (1 : Int32) = nI 1 from rfl, pk_sub (by omega), Nat.add_sub_cancel]
  · refine kx_bipush (pc := 13) (v := -3) (kx_dd d_Do_bring 5 rfl) rfl ?_
    refine kx_iret (pc := 15) rfl (kx_dd d_Do_bring 6 rfl) (Nat.le_of_ble_eq_true rfl) (Nat.le_of_ble_eq_true rfl) ?_
    rw [nI_ltI (by omega) (by decide)] at c10
    exact Or.inl ⟨by omega, rfl, rfl⟩
