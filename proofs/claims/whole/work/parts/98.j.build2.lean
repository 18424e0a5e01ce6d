/-! building: lists, docket, reader -/
theorem Bd.setI0 {E : Nat → Nat → Int32 → Prop} {R T : List (Nat × Nat × Nat)} {L : List Nat} {N : Nat} {h : kx_Mem} {a j : Nat} (hB : Bd E R T L N h) (hE : E a j 0) (hL : ∀ q ∈ L, a < q ∨ q + 8 < a) : Bd E R T L N (kx_setI h a j 0) := by
  obtain ⟨b1, b2, b3, ⟨b6, b6z⟩, b7, b8⟩ := hB
  refine ⟨b1, b2, b3, ⟨fun x y => ?_, b6z⟩, b7, fun q hq => ⟨(b8 q hq).1, (b8 q hq).2.eq (fun x y h1 h2 => ?_) (fun _ _ _ _ => rfl)⟩⟩
  · show E x y (kx_up h.1 a j 0 x y)
    unfold kx_up
    by_cases e1 : x = a
    · rw [if_pos e1]
      by_cases e2 : y = j
      · rw [if_pos e2, e1, e2]; exact hE
      · rw [if_neg e2]; exact b6 x y
    · rw [if_neg e1]; exact b6 x y
  · show kx_up h.1 a j 0 x y = _
    rw [kx_up_ne (by have := hL q hq; omega)]
theorem x_AC_init {l : Launch} {g : kx_G} {d : Nat} {h : kx_Mem} (o : Nat) : kx_Sp l g m_AC_init [.ref o] h (d + 1) 0 0 (fun v h' => v = none ∧ h' = h) := by
  refine kx_enter_e (lv := [_]) (by decide +kernel) (Nat.le_of_ble_eq_true rfl) rfl ?_
  refine kx_aload_n (pc := 0) (kx_dd d_AC_init 0 rfl) rfl rfl ?_
  refine kx_objInit (pc := 1) oi_AC oi_2 oi_3 (kx_dd d_AC_init 1 rfl) (Nat.le_of_ble_eq_true rfl) (Nat.le_of_ble_eq_true rfl) ?_
  exact kx_vret (pc := 4) rfl (kx_dd d_AC_init 2 rfl) (Nat.le_refl _) (Nat.le_refl _) ⟨rfl, rfl⟩
theorem x_AB_init {l : Launch} {g : kx_G} {d : Nat} {h : kx_Mem} (o : Nat) (hko : h.2.2.2.1 o = (1, 0)) (hol : o < 1000000) : kx_Sp l g m_AB_init [.ref o] h (d + 2) 0 0 (fun v h' => v = none ∧ h' = kx_setI h o 0 0) := by
  refine kx_enter_e (lv := [_]) (by decide +kernel) (Nat.le_of_ble_eq_true rfl) rfl ?_
  refine kx_aload_n (pc := 0) (kx_dd d_AB_init 0 rfl) rfl rfl ?_
  refine kx_invI (pc := 1) (a := o) (as := []) rfl (kx_dd d_AB_init 1 rfl) ⟨lk_AB_1, rfl, wi_AC_init⟩ w_AC_init rfl rfl (Nat.le_of_ble_eq_true rfl) (x_AC_init (d := d) o) (Nat.le_refl _) ⟨Nat.le_refl _, Nat.le_refl _⟩ (fun v h' hq => ?_)
  obtain ⟨rfl, he⟩ := hq
  rw [he]
  clear he
  refine kx_aload_n (pc := 4) (kx_dd d_AB_init 2 rfl) rfl rfl ?_
  refine kx_iconst (pc := 5) (v := 0) (kx_dd d_AB_init 3 rfl) rfl ?_
  refine kx_putI (pc := 6) fl_AB_7 (congrArg Prod.fst hko) hol rfl rfl (kx_dd d_AB_init 4 rfl) ?_
  refine kx_vret (pc := 9) rfl (kx_dd d_AB_init 5 rfl) (Nat.le_refl _) (Nat.le_refl _) ?_
  exact ⟨rfl, rfl⟩
theorem x_AL_init {l : Launch} {g : kx_G} {d : Nat} {h : kx_Mem} (E : Nat → Nat → Int32 → Prop) (R T : List (Nat × Nat × Nat)) (L : List Nat) (N o : Nat) (hB : Bd E R T L N h) (hmo : (o, 1, 0) ∈ T) (hno : ∀ q ∈ R, q.1 ≠ o) (hN : N < 1000) (hL : ∀ q ∈ L, q + 8 < o) (hE0 : E o 0 0) : kx_Sp l g m_AL_init [.ref o] h (d + 3) 0 0 (fun v h' => v = none ∧ Bd E ((o, 1, 1000201) :: R) T L N h') := by
  have ho : o < N := hB.2.1.2 _ hmo
  have hko : h.2.2.2.1 o = (1, 0) := hB.2.2.1.2 _ hmo
  refine kx_enter_e (lv := [_]) (by decide +kernel) (Nat.le_of_ble_eq_true rfl) rfl ?_
  refine kx_aload_n (pc := 0) (kx_dd d_AL_init 0 rfl) rfl rfl ?_
  refine kx_invI (pc := 1) (a := o) (as := []) rfl (kx_dd d_AL_init 1 rfl) ⟨lk_AL_1, rfl, wi_AB_init⟩ w_AB_init rfl rfl (Nat.le_of_ble_eq_true rfl) (x_AB_init (d := d) o hko (by omega)) (Nat.le_refl _) ⟨Nat.le_refl _, Nat.le_refl _⟩ (fun v h' hq => ?_)
  obtain ⟨rfl, he⟩ := hq
  rw [he]
  clear he
  refine kx_aload_n (pc := 4) (kx_dd d_AL_init 2 rfl) rfl rfl ?_
  refine kx_get0 (pc := 5) rfl (kx_dd d_AL_init 3 rfl) ?_
  refine kx_putR (pc := 8) (v := some (1000201)) fl_AL_9 (congrArg Prod.fst hko) (by omega) rfl rfl (kx_dd d_AL_init 4 rfl) ?_
  refine kx_vret (pc := 11) rfl (kx_dd d_AL_init 5 rfl) (Nat.le_refl _) (Nat.le_refl _) ?_
  exact ⟨rfl, (hB.setI0 hE0 (fun q hq => Or.inr (hL q hq))).setR ho (fun q hq z => hno q hq z.1)⟩
theorem x_Do_init {l : Launch} {g : kx_G} {d : Nat} {h : kx_Mem} (E : Nat → Nat → Int32 → Prop) (R T : List (Nat × Nat × Nat)) (L : List Nat) (N o : Nat) (hB : Bd E R T L N h) (hmo : (o, 3, 0) ∈ T) (hno : ∀ q ∈ R, q.1 ≠ o) (hN : N < 900) (hL : ∀ q ∈ L, q + 8 < N) (p1 p2 : Nat) : kx_Sp l g m_Do_init [.ref o, .ref p1, .ref p2] h (d + 4) 2 6 (fun v h' => v = none ∧ Bd E ((o, 1, p2) :: (o, 0, p1) :: (o, 3, N + 1) :: (N + 1, 1, 1000201) :: (o, 2, N) :: (N, 1, 1000201) :: R) ((N + 1, 1, 0) :: (N, 1, 0) :: T) L (N + 2) h') := by
  have hoN : o < N := hB.2.1.2 _ hmo
  refine kx_enter_e (lv := [_, _, _]) (by decide +kernel) (Nat.le_of_ble_eq_true rfl) rfl ?_
  refine kx_aload_n (pc := 0) (kx_dd d_Do_init 0 rfl) rfl rfl ?_
  refine kx_objInit (pc := 1) oi_Do oi_2 oi_3 (kx_dd d_Do_init 1 rfl) (Nat.le_of_ble_eq_true rfl) (Nat.le_of_ble_eq_true rfl) ?_
  refine kx_aload_n (pc := 4) (kx_dd d_Do_init 2 rfl) rfl rfl ?_
  have hlt := hB.2.1.1
  have hez := hB.2.2.2.1.2
  refine kx_newB (pc := 5) (N1 := N + 1) (ci := 0) (r := (kx_C0, kx_T0, 3)) hB rfl rfl cl_Do_9 (kx_in 249 (by decide +kernel) rfl) (kx_in 11 (by decide +kernel) rfl) (by omega) (Nat.le_of_ble_eq_true rfl) (Nat.le_of_ble_eq_true rfl) (kx_dd d_Do_init 3 rfl) (fun h hB => ?_)
  refine kx_dup (pc := 8) (kx_dd d_Do_init 4 rfl) rfl ?_
  refine kx_invI (pc := 9) (a := N) (as := []) rfl (kx_dd d_Do_init 5 rfl) ⟨lk_Do_11, rfl, wi_AL_init⟩ w_AL_init rfl rfl (Nat.le_of_ble_eq_true rfl) (x_AL_init (d := d) _ _ _ _ _ _ hB List.mem_cons_self (fun q hq => Nat.ne_of_lt (hlt q hq)) (by omega) (fun q hq => by have := hL q hq; omega) (hez _ _ (Nat.le_refl _))) (Nat.le_refl _) ⟨Nat.le_of_ble_eq_true rfl, Nat.le_of_ble_eq_true rfl⟩ (fun v h' hq => ?_)
  obtain ⟨rfl, hB⟩ := hq
  refine kx_putB (pc := 12) (v := N) hB (List.mem_cons_of_mem _ (hmo)) (nr_cons (by omega) (fun q hq z => hno q hq z.1)) (by omega) fl_Do_12 rfl rfl (kx_dd d_Do_init 6 rfl) (fun h hB => ?_)
  refine kx_aload_n (pc := 15) (kx_dd d_Do_init 7 rfl) rfl rfl ?_
  have hlt := hB.2.1.1
  have hez := hB.2.2.2.1.2
  refine kx_newB (pc := 16) (N1 := N + 2) (ci := 0) (r := (kx_C0, kx_T0, 3)) hB rfl rfl cl_Do_9 (kx_in 249 (by decide +kernel) rfl) (kx_in 11 (by decide +kernel) rfl) (by omega) (Nat.le_of_ble_eq_true rfl) (Nat.le_of_ble_eq_true rfl) (kx_dd d_Do_init 8 rfl) (fun h hB => ?_)
  refine kx_dup (pc := 19) (kx_dd d_Do_init 9 rfl) rfl ?_
  refine kx_invI (pc := 20) (a := N + 1) (as := []) rfl (kx_dd d_Do_init 10 rfl) ⟨lk_Do_11, rfl, wi_AL_init⟩ w_AL_init rfl rfl (Nat.le_of_ble_eq_true rfl) (x_AL_init (d := d) _ _ _ _ _ _ hB List.mem_cons_self (fun q hq => Nat.ne_of_lt (hlt q hq)) (by omega) (fun q hq => by have := hL q hq; omega) (hez _ _ (Nat.le_refl _))) (Nat.le_refl _) ⟨Nat.le_of_ble_eq_true rfl, Nat.le_of_ble_eq_true rfl⟩ (fun v h' hq => ?_)
  obtain ⟨rfl, hB⟩ := hq
  refine kx_putB (pc := 23) (v := N + 1) hB (List.mem_cons_of_mem _ (List.mem_cons_of_mem _ (hmo))) (nr_cons (by omega) (nr_cons (by omega) (nr_cons (by omega) (fun q hq z => hno q hq z.1)))) (by omega) fl_Do_18 rfl rfl (kx_dd d_Do_init 11 rfl) (fun h hB => ?_)
  refine kx_aload_n (pc := 26) (kx_dd d_Do_init 12 rfl) rfl rfl ?_
  refine kx_aload_n (pc := 27) (kx_dd d_Do_init 13 rfl) rfl rfl ?_
  refine kx_putB (pc := 28) (v := p1) hB (List.mem_cons_of_mem _ (List.mem_cons_of_mem _ (hmo))) (nr_cons (by omega) (nr_cons (by omega) (nr_cons (by omega) (nr_cons (by omega) (fun q hq z => hno q hq z.1))))) (by omega) fl_Do_21 rfl rfl (kx_dd d_Do_init 14 rfl) (fun h hB => ?_)
  refine kx_aload_n (pc := 31) (kx_dd d_Do_init 15 rfl) rfl rfl ?_
  refine kx_aload_n (pc := 32) (kx_dd d_Do_init 16 rfl) rfl rfl ?_
  refine kx_putB (pc := 33) (v := p2) hB (List.mem_cons_of_mem _ (List.mem_cons_of_mem _ (hmo))) (nr_cons (by omega) (nr_cons (by omega) (nr_cons (by omega) (nr_cons (by omega) (nr_cons (by omega) (fun q hq z => hno q hq z.1)))))) (by omega) fl_Do_25 rfl rfl (kx_dd d_Do_init 17 rfl) (fun h hB => ?_)
  exact kx_vret (pc := 36) rfl (kx_dd d_Do_init 18 rfl) (Nat.le_of_ble_eq_true rfl) (Nat.le_of_ble_eq_true rfl) ⟨rfl, hB⟩
theorem x_Re_init {l : Launch} {g : kx_G} {d : Nat} {h : kx_Mem} (E : Nat → Nat → Int32 → Prop) (R T : List (Nat × Nat × Nat)) (L : List Nat) (N o : Nat) (hB : Bd E R T L N h) (hmo : (o, 9, 0) ∈ T) (hno : ∀ q ∈ R, q.1 ≠ o) (hN : N < 900) (hN9 : N < 100) (hL : ∀ q ∈ L, q + 8 < N) (hL2 : ∀ q ∈ L, q + 8 < o) (hoN : o < N) (p1 : Nat) : kx_Sp l g m_Re_init [.ref o, .ref p1] h (d + 2) 9 119 (fun v h' => v = none ∧ Bd (fun x y z => (x = o ∧ y = 4 ∧ z = -1) ∨ (¬ (x = o ∧ y = 4) ∧ (fun x y z => E x y z ∨ (N ≤ x ∧ x ≤ N + 8)) x y z)) ((o, 0, p1) :: (o, 1, N) :: (N, 11, N + 8) :: (N, 10, N + 7) :: (N, 7, N + 6) :: (N, 6, N + 5) :: (N, 4, N + 4) :: (N, 3, N + 3) :: (N, 1, N + 2) :: (N, 0, N + 1) :: R) ((N + 8, 50, 20) :: (N + 7, 51, 20) :: (N + 6, 50, 10) :: (N + 5, 51, 10) :: (N + 4, 50, 16) :: (N + 3, 51, 16) :: (N + 2, 50, 4) :: (N + 1, 50, 11) :: (N, 8, 0) :: T) (N :: L) (N + 9) h') := by
  refine kx_enter_e (lv := [_, _]) (by decide +kernel) (Nat.le_of_ble_eq_true rfl) rfl ?_
  refine kx_aload_n (pc := 0) (kx_dd d_Re_init 0 rfl) rfl rfl ?_
  refine kx_objInit (pc := 1) oi_Re oi_2 oi_3 (kx_dd d_Re_init 1 rfl) (Nat.le_of_ble_eq_true rfl) (Nat.le_of_ble_eq_true rfl) ?_
  refine kx_aload_n (pc := 4) (kx_dd d_Re_init 2 rfl) rfl rfl ?_
  have hlt := hB.2.1.1
  have hez := hB.2.2.2.1.2
  refine kx_newB (pc := 5) (N1 := N + 1) (ci := 7) (r := (kx_C7, kx_T7, 12)) hB rfl rfl cl_Re_9 (kx_in 80 (by decide +kernel) rfl) (kx_in 4 (by decide +kernel) rfl) (by omega) (Nat.le_of_ble_eq_true rfl) (Nat.le_of_ble_eq_true rfl) (kx_dd d_Re_init 3 rfl) (fun h hB => ?_)
  refine kx_dup (pc := 8) (kx_dd d_Re_init 4 rfl) rfl ?_
  refine kx_invI (pc := 9) (a := N) (as := []) rfl (kx_dd d_Re_init 5 rfl) ⟨lk_Re_11, rfl, wi_Ru_init⟩ w_Ru_init rfl rfl (Nat.le_of_ble_eq_true rfl) (x_Ru_init (d := d) _ _ _ _ _ hB List.mem_cons_self (fun q hq => Nat.ne_of_lt (hlt q hq)) (by omega) (fun q hq => by have := hL q hq; omega)) (Nat.le_refl _) ⟨Nat.le_of_ble_eq_true rfl, Nat.le_of_ble_eq_true rfl⟩ (fun v h' hq => ?_)
  obtain ⟨rfl, hB⟩ := hq
  refine kx_putB (pc := 12) (v := N) hB (List.mem_cons_of_mem _ (List.mem_cons_of_mem _ (List.mem_cons_of_mem _ (List.mem_cons_of_mem _ (List.mem_cons_of_mem _ (List.mem_cons_of_mem _ (List.mem_cons_of_mem _ (List.mem_cons_of_mem _ (List.mem_cons_of_mem _ (hmo)))))))))) (nr_cons (by omega) (nr_cons (by omega) (nr_cons (by omega) (nr_cons (by omega) (nr_cons (by omega) (nr_cons (by omega) (nr_cons (by omega) (nr_cons (by omega) (fun q hq z => hno q hq z.1))))))))) (by omega) fl_Re_12 rfl rfl (kx_dd d_Re_init 6 rfl) (fun h hB => ?_)
  refine kx_aload_n (pc := 15) (kx_dd d_Re_init 7 rfl) rfl rfl ?_
  refine kx_iconst (pc := 16) (v := -1) (kx_dd d_Re_init 8 rfl) rfl ?_
  have hko := hB.2.2.1.2 _ (List.mem_cons_of_mem _ (List.mem_cons_of_mem _ (List.mem_cons_of_mem _ (List.mem_cons_of_mem _ (List.mem_cons_of_mem _ (List.mem_cons_of_mem _ (List.mem_cons_of_mem _ (List.mem_cons_of_mem _ (List.mem_cons_of_mem _ (hmo))))))))))
  have hol : o < N := by have := hoN; omega
  refine kx_putI (pc := 17) fl_Re_18 (congrArg Prod.fst hko) (by omega) rfl rfl (kx_dd d_Re_init 9 rfl) ?_
  have hB := hB.setI (a := o) (j := 4) (v := -1) (by omega) (fun q hq => (List.mem_cons.mp hq).elim (fun e => by omega) (fun hq => by have := hL2 q hq; omega))
  refine kx_aload_n (pc := 20) (kx_dd d_Re_init 10 rfl) rfl rfl ?_
  refine kx_aload_n (pc := 21) (kx_dd d_Re_init 11 rfl) rfl rfl ?_
  refine kx_putB (pc := 22) (v := p1) hB (List.mem_cons_of_mem _ (List.mem_cons_of_mem _ (List.mem_cons_of_mem _ (List.mem_cons_of_mem _ (List.mem_cons_of_mem _ (List.mem_cons_of_mem _ (List.mem_cons_of_mem _ (List.mem_cons_of_mem _ (List.mem_cons_of_mem _ (hmo)))))))))) (nr_cons (by omega) (nr_cons (by omega) (nr_cons (by omega) (nr_cons (by omega) (nr_cons (by omega) (nr_cons (by omega) (nr_cons (by omega) (nr_cons (by omega) (nr_cons (by omega) (fun q hq z => hno q hq z.1)))))))))) (by omega) fl_Re_22 rfl rfl (kx_dd d_Re_init 12 rfl) (fun h hB => ?_)
  exact kx_vret (pc := 25) rfl (kx_dd d_Re_init 13 rfl) (Nat.le_of_ble_eq_true rfl) (Nat.le_of_ble_eq_true rfl) ⟨rfl, hB⟩
