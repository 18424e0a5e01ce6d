/-! claims: like, measure, detail -/
/-- like cases -/
def likP (D : DK) (q c e : Nat) : Prop := D.2.2.1.2.2 c = D.2.2.1.2.2 e ∧ bc (cN D.2.2.1 c 7 ^^^ cN D.2.2.1 e 7) ≤ q
theorem likP_comm {D : DK} {q c e : Nat} : likP D q c e ↔ likP D q e c := by
  unfold likP
  rw [Nat.xor_comm]
  exact ⟨fun z => ⟨z.1.symm, z.2⟩, fun z => ⟨z.1.symm, z.2⟩⟩
theorem xor_lt10 {a b : Nat} (ha : a ≤ 1023) (hb : b ≤ 1023) : a ^^^ b < 1024 := Nat.xor_lt_two_pow (n := 10) (by omega) (by omega)
theorem bc_lt31 (m : Nat) : bc m < 2 ^ 31 := by
  have := bc_le m
  omega
def detC (D : DK) (c : Nat) (w : Int32) : Int32 :=
  if w = 0 then D.2.2.1.2.1 c 0 else if w = 1 then D.2.2.1.2.1 c 1 else if w = 2 then D.2.2.1.2.1 c 2 else if w = 3 then D.2.2.1.2.1 c 3 else if w = 4 then D.2.2.1.2.1 c 4 else if w = 5 then D.2.2.1.2.1 c 5 else if w = 6 then D.2.2.1.2.1 c 7 else if w = 7 then D.2.2.1.2.1 c 8 else if w = 8 then D.2.2.1.2.1 c 9 else if w = 9 then D.2.2.1.2.1 c 10 else if w = 10 then D.2.2.1.2.1 c 11 else if w = 11 then D.2.2.1.2.1 c 12 else if w = 12 then D.2.2.1.2.1 c 13 else if w = 13 then D.2.2.1.2.1 c 14 else -9
def meaF (du su kd : Nat) : Nat := if kd = 0 then 0 else if du * su / kd < du then du * su / kd else du
theorem x_Cl_isLike {l : Launch} {g : kx_G} {d : Nat} {h : kx_Mem} (hs : SC h) (D : DK) (A : DA) (ho : DKok D) (hp : DKc D A h) (c : Nat) (hc : c < D.2.2.1.1) (e : Nat) (he : e < D.2.2.1.1) (q : Nat) (hq0 : q < 2 ^ 30) : kx_Sp l g m_Cl_isLike [.ref (A.1 c), .ref (A.1 e), .int (nI q)] h (d + 1) 0 0 (fun v h' => v = some (.int (bP (likP D q c e))) ∧ h' = h) := by
  have hcc := hp.2.2.2.2.1.2 c hc
  have occ := ho.2.2.1.2 c hc
  have hee := hp.2.2.2.2.1.2 e he
  have oee := ho.2.2.1.2 e he
  have f7 := (hcc.2.2.2.1 7 (by decide) (by decide)).trans (occ.1 7 (by decide) (by decide) (by decide) (by decide))
  have g7 := (hee.2.2.2.1 7 (by decide) (by decide)).trans (oee.1 7 (by decide) (by decide) (by decide) (by decide))
  have w1 := occ.2.2.2.2.2.2.2.2.2.2.2.2.2.2.2.2.2
  have w2 := oee.2.2.2.2.2.2.2.2.2.2.2.2.2.2.2.2.2
  have m1 := occ.2.2.2.2.2.2.2.2.1
  have m2 := oee.2.2.2.2.2.2.2.2.1
  refine kx_enter_e (lv := [_, _, _]) (by decide +kernel) (Nat.le_of_ble_eq_true rfl) rfl ?_
  refine kx_aload_n (pc := 0) (kx_dd d_Cl_isLike 0 rfl) rfl rfl ?_
  refine kx_ifnull (pc := 1) (kx_dd d_Cl_isLike 1 rfl) ?_
  refine kx_aload_n (pc := 4) (kx_dd d_Cl_isLike 2 rfl) rfl rfl ?_
  refine kx_getL (pc := 5) fl_Cl_36 (congrArg Prod.fst hcc.2.2.1) rfl (kx_dd d_Cl_isLike 3 rfl) ?_
  refine kx_aload_n (pc := 8) (kx_dd d_Cl_isLike 4 rfl) rfl rfl ?_
  refine kx_getL (pc := 9) fl_Cl_36 (congrArg Prod.fst hee.2.2.1) rfl (kx_dd d_Cl_isLike 5 rfl) ?_
  refine kx_lcmp (pc := 12) (kx_dd d_Cl_isLike 6 rfl) ?_
  refine kx_if_ne (pc := 13) (tgt := 36) (kx_dd d_Cl_isLike 7 rfl) rfl (fun c13 => ?_) (fun c13 => ?_)
  · refine kx_iconst (pc := 36) (v := 0) (kx_dd d_Cl_isLike 18 rfl) rfl ?_
    refine kx_zret (pc := 37) rfl rfl (kx_dd d_Cl_isLike 19 rfl) (Nat.le_refl _) (Nat.le_refl _) ?_
    rw [lg_cmp_eq, hcc.2.2.2.2, hee.2.2.2.2, pk_lEQ (by omega) (by omega)] at c13
    exact ⟨by rw [bP_f (fun z => c13 z.1)], rfl⟩
  · refine kx_aload_n (pc := 16) (kx_dd d_Cl_isLike 8 rfl) rfl rfl ?_
    refine kx_getI (pc := 17) fl_Cl_40 (congrArg Prod.fst hcc.2.2.1) rfl (kx_dd d_Cl_isLike 9 rfl) ?_
    refine kx_aload_n (pc := 20) (kx_dd d_Cl_isLike 10 rfl) rfl rfl ?_
    refine kx_getI (pc := 21) fl_Cl_40 (congrArg Prod.fst hee.2.2.1) rfl (kx_dd d_Cl_isLike 11 rfl) ?_
    refine kx_ixor (pc := 24) (kx_dd d_Cl_isLike 12 rfl) ?_
    rw [f7, g7, nI_xor]
    refine kx_invS (pc := 25) (as := [_]) (kx_dd d_Cl_isLike 13 rfl) ⟨lk_Cl_58, wt_In_bitCount⟩ w_In_bitCount rfl rfl (Nat.le_of_ble_eq_true rfl) (x_In_bitCount (d := d) (cN D.2.2.1 c 7 ^^^ cN D.2.2.1 e 7) (xor_lt10 m1 m2)) (Nat.le_refl _) ⟨Nat.le_refl _, Nat.le_refl _⟩ (fun v h' hq => ?_)
    obtain ⟨rfl, he⟩ := hq
    rw [he]
    clear he
    refine kx_iload_n (pc := 28) (kx_dd d_Cl_isLike 14 rfl) rfl rfl ?_
    refine kx_icmp_gt (pc := 29) (tgt := 36) (kx_dd d_Cl_isLike 15 rfl) rfl (fun c29 => ?_) (fun c29 => ?_)
    · refine kx_iconst (pc := 36) (v := 0) (kx_dd d_Cl_isLike 18 rfl) rfl ?_
      refine kx_zret (pc := 37) rfl rfl (kx_dd d_Cl_isLike 19 rfl) (Nat.le_refl _) (Nat.le_refl _) ?_
      rw [lg_cmp_eq, hcc.2.2.2.2, hee.2.2.2.2, pk_lEQ (by omega) (by omega)] at c13
      rw [nI_ltI (by omega) (bc_lt31 _)] at c29
      exact ⟨by rw [bP_f (fun z => by have := z.2; omega)], rfl⟩
    · refine kx_iconst (pc := 32) (v := 1) (kx_dd d_Cl_isLike 16 rfl) rfl ?_
      refine kx_goto (pc := 33) (tgt := 37) (kx_dd d_Cl_isLike 17 rfl) rfl ?_
      refine kx_zret (pc := 37) rfl rfl (kx_dd d_Cl_isLike 19 rfl) (Nat.le_refl _) (Nat.le_refl _) ?_
      rw [lg_cmp_eq, hcc.2.2.2.2, hee.2.2.2.2, pk_lEQ (by omega) (by omega)] at c13
      rw [nI_ltI (by omega) (bc_lt31 _)] at c29
      exact ⟨by rw [bP_t ⟨c13, by omega⟩], rfl⟩
theorem x_Cl_divide {l : Launch} {g : kx_G} {d : Nat} {h : kx_Mem} (hs : SC h) (D : DK) (A : DA) (ho : DKok D) (hp : DKc D A h) (c : Nat) (hc : c < D.2.2.1.1) (x y : Int32) : kx_Sp l g m_Cl_divide [.ref (A.1 c), .int x, .int y] h (d) 0 0 (fun v h' => v = none ∧ h' = kx_setI (kx_setI (kx_setI h (A.1 c) 8 1) (A.1 c) 13 x) (A.1 c) 14 y) := by
  have hcc := hp.2.2.2.2.1.2 c hc
  have occ := ho.2.2.1.2 c hc
  refine kx_enter_e (lv := [_, _, _]) (by decide +kernel) (Nat.le_of_ble_eq_true rfl) rfl ?_
  refine kx_aload_n (pc := 0) (kx_dd d_Cl_divide 0 rfl) rfl rfl ?_
  refine kx_iconst (pc := 1) (v := 1) (kx_dd d_Cl_divide 1 rfl) rfl ?_
  refine kx_putI (pc := 2) fl_Cl_11 (congrArg Prod.fst hcc.2.2.1) hcc.2.1 rfl rfl (kx_dd d_Cl_divide 2 rfl) ?_
  refine kx_aload_n (pc := 5) (kx_dd d_Cl_divide 3 rfl) rfl rfl ?_
  refine kx_iload_n (pc := 6) (kx_dd d_Cl_divide 4 rfl) rfl rfl ?_
  refine kx_putI (pc := 7) fl_Cl_52 (congrArg Prod.fst hcc.2.2.1) hcc.2.1 rfl rfl (kx_dd d_Cl_divide 5 rfl) ?_
  refine kx_aload_n (pc := 10) (kx_dd d_Cl_divide 6 rfl) rfl rfl ?_
  refine kx_iload_n (pc := 11) (kx_dd d_Cl_divide 7 rfl) rfl rfl ?_
  refine kx_putI (pc := 12) fl_Cl_55 (congrArg Prod.fst hcc.2.2.1) hcc.2.1 rfl rfl (kx_dd d_Cl_divide 8 rfl) ?_
  refine kx_vret (pc := 15) rfl (kx_dd d_Cl_divide 9 rfl) (Nat.le_refl _) (Nat.le_refl _) ?_
  exact ⟨rfl, rfl⟩
theorem x_Cl_reopen {l : Launch} {g : kx_G} {d : Nat} {h : kx_Mem} (hs : SC h) (D : DK) (A : DA) (ho : DKok D) (hp : DKc D A h) (c : Nat) (hc : c < D.2.2.1.1) : kx_Sp l g m_Cl_reopen [.ref (A.1 c)] h (d) 0 0 (fun v h' => v = none ∧ h' = kx_setI (kx_setI (kx_setI (kx_setI h (A.1 c) 8 0) (A.1 c) 9 0) (A.1 c) 10 0) (A.1 c) 12 (-1)) := by
  have hcc := hp.2.2.2.2.1.2 c hc
  have occ := ho.2.2.1.2 c hc
  refine kx_enter_e (lv := [_]) (by decide +kernel) (Nat.le_of_ble_eq_true rfl) rfl ?_
  refine kx_aload_n (pc := 0) (kx_dd d_Cl_reopen 0 rfl) rfl rfl ?_
  refine kx_iconst (pc := 1) (v := 0) (kx_dd d_Cl_reopen 1 rfl) rfl ?_
  refine kx_putI (pc := 2) fl_Cl_11 (congrArg Prod.fst hcc.2.2.1) hcc.2.1 rfl rfl (kx_dd d_Cl_reopen 2 rfl) ?_
  refine kx_aload_n (pc := 5) (kx_dd d_Cl_reopen 3 rfl) rfl rfl ?_
  refine kx_iconst (pc := 6) (v := 0) (kx_dd d_Cl_reopen 4 rfl) rfl ?_
  refine kx_putI (pc := 7) fl_Cl_43 (congrArg Prod.fst hcc.2.2.1) hcc.2.1 rfl rfl (kx_dd d_Cl_reopen 5 rfl) ?_
  refine kx_aload_n (pc := 10) (kx_dd d_Cl_reopen 6 rfl) rfl rfl ?_
  refine kx_iconst (pc := 11) (v := 0) (kx_dd d_Cl_reopen 7 rfl) rfl ?_
  refine kx_putI (pc := 12) fl_Cl_46 (congrArg Prod.fst hcc.2.2.1) hcc.2.1 rfl rfl (kx_dd d_Cl_reopen 8 rfl) ?_
  refine kx_aload_n (pc := 15) (kx_dd d_Cl_reopen 9 rfl) rfl rfl ?_
  refine kx_iconst (pc := 16) (v := -1) (kx_dd d_Cl_reopen 10 rfl) rfl ?_
  refine kx_putI (pc := 17) fl_Cl_15 (congrArg Prod.fst hcc.2.2.1) hcc.2.1 rfl rfl (kx_dd d_Cl_reopen 11 rfl) ?_
  refine kx_vret (pc := 20) rfl (kx_dd d_Cl_reopen 12 rfl) (Nat.le_refl _) (Nat.le_refl _) ?_
  exact ⟨rfl, rfl⟩
theorem x_Cl_detail {l : Launch} {g : kx_G} {d : Nat} {h : kx_Mem} (hs : SC h) (D : DK) (A : DA) (ho : DKok D) (hp : DKc D A h) (c : Nat) (hc : c < D.2.2.1.1) (w : Int32) : kx_Sp l g m_Cl_detail [.ref (A.1 c), .int w] h (d) 0 0 (fun v h' => v = some (.int (detC D c w)) ∧ h' = h) := by
  have hcc := hp.2.2.2.2.1.2 c hc
  have occ := ho.2.2.1.2 c hc
  refine kx_enter_e (lv := [_, _]) (by decide +kernel) (Nat.le_of_ble_eq_true rfl) rfl ?_
  refine kx_iload_n (pc := 0) (kx_dd d_Cl_detail 0 rfl) rfl rfl ?_
  by_cases e1_0 : w = 0
  · refine kx_tableIn (pc := 1) (tgt := 72) (kx_dd d_Cl_detail 1 rfl) (by rw [e1_0] <;> decide) (by rw [e1_0] <;> decide) (by rw [e1_0] <;> rfl) rfl ?_
    refine kx_aload_n (pc := 72) (kx_dd d_Cl_detail 2 rfl) rfl rfl ?_
    refine kx_getI (pc := 73) fl_Cl_18 (congrArg Prod.fst hcc.2.2.1) rfl (kx_dd d_Cl_detail 3 rfl) ?_
    refine kx_iret (pc := 76) rfl (kx_dd d_Cl_detail 4 rfl) (Nat.le_refl _) (Nat.le_refl _) ?_
    refine ⟨?_, rfl⟩
    unfold detC
    rw [e1_0]
    exact congrArg (fun z => some (Value.int z)) ((hcc.2.2.2.1 0 (by decide) (by decide)).trans (by simp))
  · skip
    by_cases e1_1 : w = 1
    · refine kx_tableIn (pc := 1) (tgt := 77) (kx_dd d_Cl_detail 1 rfl) (by rw [e1_1] <;> decide) (by rw [e1_1] <;> decide) (by rw [e1_1] <;> rfl) rfl ?_
      refine kx_aload_n (pc := 77) (kx_dd d_Cl_detail 5 rfl) rfl rfl ?_
      refine kx_getI (pc := 78) fl_Cl_21 (congrArg Prod.fst hcc.2.2.1) rfl (kx_dd d_Cl_detail 6 rfl) ?_
      refine kx_iret (pc := 81) rfl (kx_dd d_Cl_detail 7 rfl) (Nat.le_refl _) (Nat.le_refl _) ?_
      refine ⟨?_, rfl⟩
      unfold detC
      rw [e1_1]
      exact congrArg (fun z => some (Value.int z)) ((hcc.2.2.2.1 1 (by decide) (by decide)).trans (by simp))
    · skip
      by_cases e1_2 : w = 2
      · refine kx_tableIn (pc := 1) (tgt := 82) (kx_dd d_Cl_detail 1 rfl) (by rw [e1_2] <;> decide) (by rw [e1_2] <;> decide) (by rw [e1_2] <;> rfl) rfl ?_
        refine kx_aload_n (pc := 82) (kx_dd d_Cl_detail 8 rfl) rfl rfl ?_
        refine kx_getI (pc := 83) fl_Cl_24 (congrArg Prod.fst hcc.2.2.1) rfl (kx_dd d_Cl_detail 9 rfl) ?_
        refine kx_iret (pc := 86) rfl (kx_dd d_Cl_detail 10 rfl) (Nat.le_refl _) (Nat.le_refl _) ?_
        refine ⟨?_, rfl⟩
        unfold detC
        rw [e1_2]
        exact congrArg (fun z => some (Value.int z)) ((hcc.2.2.2.1 2 (by decide) (by decide)).trans (by simp))
      · skip
        by_cases e1_3 : w = 3
        · refine kx_tableIn (pc := 1) (tgt := 87) (kx_dd d_Cl_detail 1 rfl) (by rw [e1_3] <;> decide) (by rw [e1_3] <;> decide) (by rw [e1_3] <;> rfl) rfl ?_
          refine kx_aload_n (pc := 87) (kx_dd d_Cl_detail 11 rfl) rfl rfl ?_
          refine kx_getI (pc := 88) fl_Cl_27 (congrArg Prod.fst hcc.2.2.1) rfl (kx_dd d_Cl_detail 12 rfl) ?_
          refine kx_iret (pc := 91) rfl (kx_dd d_Cl_detail 13 rfl) (Nat.le_refl _) (Nat.le_refl _) ?_
          refine ⟨?_, rfl⟩
          unfold detC
          rw [e1_3]
          exact congrArg (fun z => some (Value.int z)) ((hcc.2.2.2.1 3 (by decide) (by decide)).trans (by simp))
        · skip
          by_cases e1_4 : w = 4
          · refine kx_tableIn (pc := 1) (tgt := 92) (kx_dd d_Cl_detail 1 rfl) (by rw [e1_4] <;> decide) (by rw [e1_4] <;> decide) (by rw [e1_4] <;> rfl) rfl ?_
            refine kx_aload_n (pc := 92) (kx_dd d_Cl_detail 14 rfl) rfl rfl ?_
            refine kx_getI (pc := 93) fl_Cl_30 (congrArg Prod.fst hcc.2.2.1) rfl (kx_dd d_Cl_detail 15 rfl) ?_
            refine kx_iret (pc := 96) rfl (kx_dd d_Cl_detail 16 rfl) (Nat.le_refl _) (Nat.le_refl _) ?_
            refine ⟨?_, rfl⟩
            unfold detC
            rw [e1_4]
            exact congrArg (fun z => some (Value.int z)) ((hcc.2.2.2.1 4 (by decide) (by decide)).trans (by simp))
          · skip
            by_cases e1_5 : w = 5
            · refine kx_tableIn (pc := 1) (tgt := 97) (kx_dd d_Cl_detail 1 rfl) (by rw [e1_5] <;> decide) (by rw [e1_5] <;> decide) (by rw [e1_5] <;> rfl) rfl ?_
              refine kx_aload_n (pc := 97) (kx_dd d_Cl_detail 17 rfl) rfl rfl ?_
              refine kx_getI (pc := 98) fl_Cl_33 (congrArg Prod.fst hcc.2.2.1) rfl (kx_dd d_Cl_detail 18 rfl) ?_
              refine kx_iret (pc := 101) rfl (kx_dd d_Cl_detail 19 rfl) (Nat.le_refl _) (Nat.le_refl _) ?_
              refine ⟨?_, rfl⟩
              unfold detC
              rw [e1_5]
              exact congrArg (fun z => some (Value.int z)) ((hcc.2.2.2.1 5 (by decide) (by decide)).trans (by simp))
            · skip
              by_cases e1_6 : w = 6
              · refine kx_tableIn (pc := 1) (tgt := 102) (kx_dd d_Cl_detail 1 rfl) (by rw [e1_6] <;> decide) (by rw [e1_6] <;> decide) (by rw [e1_6] <;> rfl) rfl ?_
                refine kx_aload_n (pc := 102) (kx_dd d_Cl_detail 20 rfl) rfl rfl ?_
                refine kx_getI (pc := 103) fl_Cl_40 (congrArg Prod.fst hcc.2.2.1) rfl (kx_dd d_Cl_detail 21 rfl) ?_
                refine kx_iret (pc := 106) rfl (kx_dd d_Cl_detail 22 rfl) (Nat.le_refl _) (Nat.le_refl _) ?_
                refine ⟨?_, rfl⟩
                unfold detC
                rw [e1_6]
                exact congrArg (fun z => some (Value.int z)) ((hcc.2.2.2.1 7 (by decide) (by decide)).trans (by simp))
              · skip
                by_cases e1_7 : w = 7
                · refine kx_tableIn (pc := 1) (tgt := 107) (kx_dd d_Cl_detail 1 rfl) (by rw [e1_7] <;> decide) (by rw [e1_7] <;> decide) (by rw [e1_7] <;> rfl) rfl ?_
                  refine kx_aload_n (pc := 107) (kx_dd d_Cl_detail 23 rfl) rfl rfl ?_
                  refine kx_getI (pc := 108) fl_Cl_11 (congrArg Prod.fst hcc.2.2.1) rfl (kx_dd d_Cl_detail 24 rfl) ?_
                  refine kx_iret (pc := 111) rfl (kx_dd d_Cl_detail 25 rfl) (Nat.le_refl _) (Nat.le_refl _) ?_
                  refine ⟨?_, rfl⟩
                  unfold detC
                  rw [e1_7]
                  exact congrArg (fun z => some (Value.int z)) ((hcc.2.2.2.1 8 (by decide) (by decide)).trans (by simp))
                · skip
                  by_cases e1_8 : w = 8
                  · refine kx_tableIn (pc := 1) (tgt := 112) (kx_dd d_Cl_detail 1 rfl) (by rw [e1_8] <;> decide) (by rw [e1_8] <;> decide) (by rw [e1_8] <;> rfl) rfl ?_
                    refine kx_aload_n (pc := 112) (kx_dd d_Cl_detail 26 rfl) rfl rfl ?_
                    refine kx_getI (pc := 113) fl_Cl_43 (congrArg Prod.fst hcc.2.2.1) rfl (kx_dd d_Cl_detail 27 rfl) ?_
                    refine kx_iret (pc := 116) rfl (kx_dd d_Cl_detail 28 rfl) (Nat.le_refl _) (Nat.le_refl _) ?_
                    refine ⟨?_, rfl⟩
                    unfold detC
                    rw [e1_8]
                    exact congrArg (fun z => some (Value.int z)) ((hcc.2.2.2.1 9 (by decide) (by decide)).trans (by simp))
                  · skip
                    by_cases e1_9 : w = 9
                    · refine kx_tableIn (pc := 1) (tgt := 117) (kx_dd d_Cl_detail 1 rfl) (by rw [e1_9] <;> decide) (by rw [e1_9] <;> decide) (by rw [e1_9] <;> rfl) rfl ?_
                      refine kx_aload_n (pc := 117) (kx_dd d_Cl_detail 29 rfl) rfl rfl ?_
                      refine kx_getI (pc := 118) fl_Cl_46 (congrArg Prod.fst hcc.2.2.1) rfl (kx_dd d_Cl_detail 30 rfl) ?_
                      refine kx_iret (pc := 121) rfl (kx_dd d_Cl_detail 31 rfl) (Nat.le_refl _) (Nat.le_refl _) ?_
                      refine ⟨?_, rfl⟩
                      unfold detC
                      rw [e1_9]
                      exact congrArg (fun z => some (Value.int z)) ((hcc.2.2.2.1 10 (by decide) (by decide)).trans (by simp))
                    · skip
                      by_cases e1_10 : w = 10
                      · refine kx_tableIn (pc := 1) (tgt := 122) (kx_dd d_Cl_detail 1 rfl) (by rw [e1_10] <;> decide) (by rw [e1_10] <;> decide) (by rw [e1_10] <;> rfl) rfl ?_
                        refine kx_aload_n (pc := 122) (kx_dd d_Cl_detail 32 rfl) rfl rfl ?_
                        refine kx_getI (pc := 123) fl_Cl_49 (congrArg Prod.fst hcc.2.2.1) rfl (kx_dd d_Cl_detail 33 rfl) ?_
                        refine kx_iret (pc := 126) rfl (kx_dd d_Cl_detail 34 rfl) (Nat.le_refl _) (Nat.le_refl _) ?_
                        refine ⟨?_, rfl⟩
                        unfold detC
                        rw [e1_10]
                        exact congrArg (fun z => some (Value.int z)) ((hcc.2.2.2.1 11 (by decide) (by decide)).trans (by simp))
                      · skip
                        by_cases e1_11 : w = 11
                        · refine kx_tableIn (pc := 1) (tgt := 127) (kx_dd d_Cl_detail 1 rfl) (by rw [e1_11] <;> decide) (by rw [e1_11] <;> decide) (by rw [e1_11] <;> rfl) rfl ?_
                          refine kx_aload_n (pc := 127) (kx_dd d_Cl_detail 35 rfl) rfl rfl ?_
                          refine kx_getI (pc := 128) fl_Cl_15 (congrArg Prod.fst hcc.2.2.1) rfl (kx_dd d_Cl_detail 36 rfl) ?_
                          refine kx_iret (pc := 131) rfl (kx_dd d_Cl_detail 37 rfl) (Nat.le_refl _) (Nat.le_refl _) ?_
                          refine ⟨?_, rfl⟩
                          unfold detC
                          rw [e1_11]
                          exact congrArg (fun z => some (Value.int z)) ((hcc.2.2.2.1 12 (by decide) (by decide)).trans (by simp))
                        · skip
                          by_cases e1_12 : w = 12
                          · refine kx_tableIn (pc := 1) (tgt := 132) (kx_dd d_Cl_detail 1 rfl) (by rw [e1_12] <;> decide) (by rw [e1_12] <;> decide) (by rw [e1_12] <;> rfl) rfl ?_
                            refine kx_aload_n (pc := 132) (kx_dd d_Cl_detail 38 rfl) rfl rfl ?_
                            refine kx_getI (pc := 133) fl_Cl_52 (congrArg Prod.fst hcc.2.2.1) rfl (kx_dd d_Cl_detail 39 rfl) ?_
                            refine kx_iret (pc := 136) rfl (kx_dd d_Cl_detail 40 rfl) (Nat.le_refl _) (Nat.le_refl _) ?_
                            refine ⟨?_, rfl⟩
                            unfold detC
                            rw [e1_12]
                            exact congrArg (fun z => some (Value.int z)) ((hcc.2.2.2.1 13 (by decide) (by decide)).trans (by simp))
                          · skip
                            by_cases e1_13 : w = 13
                            · refine kx_tableIn (pc := 1) (tgt := 137) (kx_dd d_Cl_detail 1 rfl) (by rw [e1_13] <;> decide) (by rw [e1_13] <;> decide) (by rw [e1_13] <;> rfl) rfl ?_
                              refine kx_aload_n (pc := 137) (kx_dd d_Cl_detail 41 rfl) rfl rfl ?_
                              refine kx_getI (pc := 138) fl_Cl_55 (congrArg Prod.fst hcc.2.2.1) rfl (kx_dd d_Cl_detail 42 rfl) ?_
                              refine kx_iret (pc := 141) rfl (kx_dd d_Cl_detail 43 rfl) (Nat.le_refl _) (Nat.le_refl _) ?_
                              refine ⟨?_, rfl⟩
                              unfold detC
                              rw [e1_13]
                              exact congrArg (fun z => some (Value.int z)) ((hcc.2.2.2.1 14 (by decide) (by decide)).trans (by simp))
                            · skip
                              refine kx_tableOut (pc := 1) (tgt := 142) (kx_dd d_Cl_detail 1 rfl) (by have y0 := lv_neT (a := 0) e1_0 (by decide); have y1 := lv_neT (a := 1) e1_1 (by decide); have y2 := lv_neT (a := 2) e1_2 (by decide); have y3 := lv_neT (a := 3) e1_3 (by decide); have y4 := lv_neT (a := 4) e1_4 (by decide); have y5 := lv_neT (a := 5) e1_5 (by decide); have y6 := lv_neT (a := 6) e1_6 (by decide); have y7 := lv_neT (a := 7) e1_7 (by decide); have y8 := lv_neT (a := 8) e1_8 (by decide); have y9 := lv_neT (a := 9) e1_9 (by decide); have y10 := lv_neT (a := 10) e1_10 (by decide); have y11 := lv_neT (a := 11) e1_11 (by decide); have y12 := lv_neT (a := 12) e1_12 (by decide); have y13 := lv_neT (a := 13) e1_13 (by decide); omega) rfl ?_
                              refine kx_bipush (pc := 142) (v := -9) (kx_dd d_Cl_detail 44 rfl) rfl ?_
                              refine kx_iret (pc := 144) rfl (kx_dd d_Cl_detail 45 rfl) (Nat.le_refl _) (Nat.le_refl _) ?_
                              refine ⟨?_, rfl⟩
                              unfold detC
                              rw [if_neg e1_0, if_neg e1_1, if_neg e1_2, if_neg e1_3, if_neg e1_4, if_neg e1_5, if_neg e1_6, if_neg e1_7, if_neg e1_8, if_neg e1_9, if_neg e1_10, if_neg e1_11, if_neg e1_12, if_neg e1_13]
theorem x_Cl_measureOf {l : Launch} {g : kx_G} {d : Nat} {h : kx_Mem} (hs : SC h) (D : DK) (A : DA) (ho : DKok D) (hp : DKc D A h) (c : Nat) (hc : c < D.2.2.1.1) (du : Nat) (hdu : du ≤ 999999) : kx_Sp l g m_Cl_measureOf [.ref (A.1 c), .int (nI du)] h (d + 1) 0 0 (fun v h' => v = some (.int (nI (meaF du (cN D.2.2.1 c 9) (cN D.2.2.1 c 16)))) ∧ h' = h) := by
  have hcc := hp.2.2.2.2.1.2 c hc
  have occ := ho.2.2.1.2 c hc
  have f9 := (hcc.2.2.2.1 9 (by decide) (by decide)).trans (occ.1 9 (by decide) (by decide) (by decide) (by decide))
  have f16 := (hcc.2.2.2.1 16 (by decide) (by decide)).trans (occ.1 16 (by decide) (by decide) (by decide) (by decide))
  obtain ⟨-, -, -, -, -, -, -, -, -, -, q9, -, -, -, -, q16, -, -⟩ := occ
  refine kx_enter_e (lv := [_, _]) (by decide +kernel) (Nat.le_of_ble_eq_true rfl) rfl ?_
  refine kx_aload_n (pc := 0) (kx_dd d_Cl_measureOf 0 rfl) rfl rfl ?_
  refine kx_getI (pc := 1) fl_Cl_64 (congrArg Prod.fst hcc.2.2.1) rfl (kx_dd d_Cl_measureOf 1 rfl) ?_
  refine kx_if_gt (pc := 4) (tgt := 11) (kx_dd d_Cl_measureOf 2 rfl) rfl (fun c4 => ?_) (fun c4 => ?_)
  · refine kx_iload_n (pc := 11) (kx_dd d_Cl_measureOf 5 rfl) rfl rfl ?_
    refine kx_i2l (pc := 12) (kx_dd d_Cl_measureOf 6 rfl) ?_
    refine kx_iload_n (pc := 13) (kx_dd d_Cl_measureOf 7 rfl) rfl rfl ?_
    refine kx_i2l (pc := 14) (kx_dd d_Cl_measureOf 8 rfl) ?_
    refine kx_aload_n (pc := 15) (kx_dd d_Cl_measureOf 9 rfl) rfl rfl ?_
    refine kx_getI (pc := 16) fl_Cl_43 (congrArg Prod.fst hcc.2.2.1) rfl (kx_dd d_Cl_measureOf 10 rfl) ?_
    refine kx_i2l (pc := 19) (kx_dd d_Cl_measureOf 11 rfl) ?_
    refine kx_lmul (pc := 20) (kx_dd d_Cl_measureOf 12 rfl) ?_
    refine kx_aload_n (pc := 21) (kx_dd d_Cl_measureOf 13 rfl) rfl rfl ?_
    refine kx_getI (pc := 22) fl_Cl_64 (congrArg Prod.fst hcc.2.2.1) rfl (kx_dd d_Cl_measureOf 14 rfl) ?_
    refine kx_i2l (pc := 25) (kx_dd d_Cl_measureOf 15 rfl) ?_
    refine kx_ldiv (pc := 26) (kx_dd d_Cl_measureOf 16 rfl) (by rw [f16, nI_l (by omega)]; exact fun z => by rw [f16, show (0 : Int32) = nI 0 from rfl, nI_ltI (by decide) (by omega)] at c4; have := (pk_lEQ (a := cN D.2.2.1 c 16) (b := 0) (by omega) (by decide)).mp z; omega) ?_
    refine kx_mminL (pc := 27) mk_Cl_67 (kx_dd d_Cl_measureOf 17 rfl) (Nat.le_of_ble_eq_true rfl) (Nat.le_of_ble_eq_true rfl) (Nat.le_refl _) (Nat.le_refl _) ?_
    refine kx_l2i (pc := 30) (kx_dd d_Cl_measureOf 18 rfl) ?_
    refine kx_iret (pc := 31) rfl (kx_dd d_Cl_measureOf 19 rfl) (Nat.le_refl _) (Nat.le_refl _) ?_
    rw [f16, show (0 : Int32) = nI 0 from rfl, nI_ltI (by decide) (by omega)] at c4
    refine ⟨?_, rfl⟩
    have hml : du * cN D.2.2.1 c 9 < 2 ^ 62 := by have : du * cN D.2.2.1 c 9 ≤ 999999 * 999999 := Nat.mul_le_mul hdu q9; omega
    have hdl : du * cN D.2.2.1 c 9 / cN D.2.2.1 c 16 ≤ du * cN D.2.2.1 c 9 := Nat.div_le_self _ _
    rw [f9, f16, nI_l (by omega), nI_l (by omega), nI_l (by omega), lN_mul, pk_lDiv (by omega) (by omega) (by omega)]
    unfold meaF
    rw [if_neg (show ¬ cN D.2.2.1 c 16 = 0 by omega)]
    by_cases z : du * cN D.2.2.1 c 9 / cN D.2.2.1 c 16 < du
    · rw [if_pos ((pk_lLT (by omega) (by omega)).mpr z), if_pos z, lN_i]
    · rw [if_neg (fun y => z ((pk_lLT (by omega) (by omega)).mp y)), if_neg z, lN_i]
  · refine kx_iconst (pc := 7) (v := 0) (kx_dd d_Cl_measureOf 3 rfl) rfl ?_
    refine kx_goto (pc := 8) (tgt := 31) (kx_dd d_Cl_measureOf 4 rfl) rfl ?_
    refine kx_iret (pc := 31) rfl (kx_dd d_Cl_measureOf 19 rfl) (Nat.le_refl _) (Nat.le_refl _) ?_
    rw [f16, show (0 : Int32) = nI 0 from rfl, nI_ltI (by decide) (by omega)] at c4
    have z0 : cN D.2.2.1 c 16 = 0 := by omega
    exact ⟨by unfold meaF; rw [if_pos z0]; rfl, rfl⟩
theorem y_areLike {l : Launch} {g : kx_G} {d : Nat} {h : kx_Mem} (hm : SM h) (nw : Nat) (T : Nat → Nat) (hwt : WTok nw T) (D : DK) (ho : DKok D) (hp : DKm D nw T h) (r : RU) (v : Nat) (hv : v < 4) (hse : RSet r) (hrp : RUm r v nw T h) (hif : h.1 84 31 = nI v) (c e : Nat) (hc : c < D.2.2.1.1) (he : e < D.2.2.1.1) : kx_Sp l g m_Mo_areLike [.ref 84, .int (nI c), .int (nI e)] h (d + 1) 0 0 (fun z9 h' => z9 = some (.int (bP (likP D (rsN r 8) c e))) ∧ h' = h) := by
  have hn2 := hwt.1
  have o60 := ho.2.2.1.1
  have hcc := hp.2.2.1.2 c hc
  have occ := ho.2.2.1.2 c hc
  have hcce := hp.2.2.1.2 e he
  have occe := ho.2.2.1.2 e he
  have f7 : h.1 129 c = nI (cN D.2.2.1 c 7) := (hcc.1 7 (by decide) (by decide) (by decide)).trans (occ.1 7 (by decide) (by decide) (by decide) (by decide))
  have g7 : h.1 129 e = nI (cN D.2.2.1 e 7) := (hcce.1 7 (by decide) (by decide) (by decide)).trans (occe.1 7 (by decide) (by decide) (by decide) (by decide))
  have m1 := occ.2.2.2.2.2.2.2.2.1
  have m2 := occe.2.2.2.2.2.2.2.2.1
  obtain ⟨j9, hj, hj1, hj2⟩ := hcce.2.2
  refine kx_enter_e (lv := [_, _, _]) (by decide +kernel) (Nat.le_of_ble_eq_true rfl) rfl ?_
  refine kx_aload_n (pc := 0) (kx_dd d_Mo_areLike 0 rfl) rfl rfl ?_
  refine kx_getR (pc := 1) (b := 127) fl_Mo_339 (hm.k 0 rfl) rfl (hm.r 42 rfl) (kx_dd d_Mo_areLike 1 rfl) ?_
  refine kx_iload_n (pc := 4) (kx_dd d_Mo_areLike 2 rfl) rfl rfl ?_
  refine kx_ialdn (pc := 5) c (hm.t 43 rfl) rfl (by omega) (by decide) (kx_dd d_Mo_areLike 3 rfl) ?_
  refine kx_aload_n (pc := 6) (kx_dd d_Mo_areLike 4 rfl) rfl rfl ?_
  refine kx_getR (pc := 7) (b := 127) fl_Mo_339 (hm.k 0 rfl) rfl (hm.r 42 rfl) (kx_dd d_Mo_areLike 5 rfl) ?_
  refine kx_iload_n (pc := 10) (kx_dd d_Mo_areLike 6 rfl) rfl rfl ?_
  refine kx_ialdn (pc := 11) e (hm.t 43 rfl) rfl (by omega) (by decide) (kx_dd d_Mo_areLike 7 rfl) ?_
  refine kx_icmp_ne (pc := 12) (tgt := 48) (kx_dd d_Mo_areLike 8 rfl) rfl (fun c12 => ?_) (fun c12 => ?_)
  · refine kx_iconst (pc := 48) (v := 0) (kx_dd d_Mo_areLike 27 rfl) rfl ?_
    refine kx_zret (pc := 49) rfl rfl (kx_dd d_Mo_areLike 28 rfl) (Nat.le_refl _) (Nat.le_refl _) ?_
    rw [hj2, wd_eq hwt hcc.2.2 hj] at c12
    exact ⟨by rw [bP_f (fun z => c12 (z.1.trans hj1.symm))], rfl⟩
  · refine kx_aload_n (pc := 15) (kx_dd d_Mo_areLike 9 rfl) rfl rfl ?_
    refine kx_getR (pc := 16) (b := 129) fl_Mo_345 (hm.k 0 rfl) rfl (hm.r 44 rfl) (kx_dd d_Mo_areLike 10 rfl) ?_
    refine kx_iload_n (pc := 19) (kx_dd d_Mo_areLike 11 rfl) rfl rfl ?_
    refine kx_ialdn (pc := 20) c (hm.t 45 rfl) rfl (by omega) (by decide) (kx_dd d_Mo_areLike 12 rfl) ?_
    refine kx_aload_n (pc := 21) (kx_dd d_Mo_areLike 13 rfl) rfl rfl ?_
    refine kx_getR (pc := 22) (b := 129) fl_Mo_345 (hm.k 0 rfl) rfl (hm.r 44 rfl) (kx_dd d_Mo_areLike 14 rfl) ?_
    refine kx_iload_n (pc := 25) (kx_dd d_Mo_areLike 15 rfl) rfl rfl ?_
    refine kx_ialdn (pc := 26) e (hm.t 45 rfl) rfl (by omega) (by decide) (kx_dd d_Mo_areLike 16 rfl) ?_
    refine kx_ixor (pc := 27) (kx_dd d_Mo_areLike 17 rfl) ?_
    rw [f7, g7, nI_xor]
    refine kx_invS (pc := 28) (as := [_]) (kx_dd d_Mo_areLike 18 rfl) ⟨lk_Mo_486, wt_Mo_bits⟩ w_Mo_bits rfl rfl (Nat.le_of_ble_eq_true rfl) (y_bits (d := d) (cN D.2.2.1 c 7 ^^^ cN D.2.2.1 e 7) (by have := xor_lt10 m1 m2; omega)) (Nat.le_refl _) ⟨Nat.le_refl _, Nat.le_refl _⟩ (fun v h' hq => ?_)
    obtain ⟨rfl, he⟩ := hq
    rw [he]
    clear he
    refine kx_aload_n (pc := 31) (kx_dd d_Mo_areLike 19 rfl) rfl rfl ?_
    refine kx_aload_n (pc := 32) (kx_dd d_Mo_areLike 20 rfl) rfl rfl ?_
    refine kx_getI (pc := 33) fl_Mo_251 (hm.k 0 rfl) rfl (kx_dd d_Mo_areLike 21 rfl) ?_
    refine kx_bipush (pc := 36) (v := 8) (kx_dd d_Mo_areLike 22 rfl) rfl ?_
    rw [hif]
    refine kx_invV (pc := 38) (a := 84) (as := [_, _]) (kx_dd d_Mo_areLike 23 rfl) ⟨lk_Mo_162, wi_Mo_ruleOf, we_Mo_ruleOf⟩ w_Mo_ruleOf (hm.k 0 rfl) rfl rfl rfl rfl (Nat.le_of_ble_eq_true rfl) (y_ruleOf (d := d) hm v 8 (by omega) (by decide)) (Nat.le_refl _) ⟨Nat.le_refl _, Nat.le_refl _⟩ (fun v h' hq => ?_)
    obtain ⟨rfl, he⟩ := hq
    rw [he]
    clear he
    refine kx_icmp_gt (pc := 41) (tgt := 48) (kx_dd d_Mo_areLike 24 rfl) rfl (fun c41 => ?_) (fun c41 => ?_)
    · refine kx_iconst (pc := 48) (v := 0) (kx_dd d_Mo_areLike 27 rfl) rfl ?_
      refine kx_zret (pc := 49) rfl rfl (kx_dd d_Mo_areLike 28 rfl) (Nat.le_refl _) (Nat.le_refl _) ?_
      rw [hj2, wd_eq hwt hcc.2.2 hj] at c12
      rw [hrp.1 8 (by decide), hse.1 8 (by decide) (by decide), nI_ltI (by have := hse.2.1 8 (by decide) (by decide); omega) (bc_lt31 _)] at c41
      exact ⟨by rw [bP_f (fun z => by have := z.2; omega)], rfl⟩
    · refine kx_iconst (pc := 44) (v := 1) (kx_dd d_Mo_areLike 25 rfl) rfl ?_
      refine kx_goto (pc := 45) (tgt := 49) (kx_dd d_Mo_areLike 26 rfl) rfl ?_
      refine kx_zret (pc := 49) rfl rfl (kx_dd d_Mo_areLike 28 rfl) (Nat.le_refl _) (Nat.le_refl _) ?_
      rw [hj2, wd_eq hwt hcc.2.2 hj] at c12
      rw [hrp.1 8 (by decide), hse.1 8 (by decide) (by decide), nI_ltI (by have := hse.2.1 8 (by decide) (by decide); omega) (bc_lt31 _)] at c41
      exact ⟨by rw [bP_t ⟨c12.trans hj1, by omega⟩], rfl⟩
