/-! the class: rules, fault, force, rule, need, kind -/
/-- the four versions: where they are, and the draft -/
def CVs (A : Nat → Nat) (D : Nat) (V : Nat → RU) (h : kx_Mem) : Prop := h.2.2.1 3 1 = some D ∧ isRuA D ∧ ∀ u, u < 4 → h.2.2.1 13 u = some (A u) ∧ isRuA (A u) ∧ A u ≠ D ∧ RUok (V u) ∧ RUc (V u) (A u) h ∧ ∀ u', u' < 4 → u' ≠ u → A u' ≠ A u
theorem RUc.fg {r : RU} {a : Nat} {P L : Nat → Nat → Prop} {h h' : kx_Mem} (hp : RUc r a h) (hf : kx_Fg P L h h') (hn : ∀ x j, a ≤ x → x ≤ a + 8 → ¬ P x j ∧ ¬ L x j) : RUc r a h' := by
  have e : ∀ x j, a ≤ x ∧ x ≤ a + 8 → h'.1 x j = h.1 x j := fun x j hx => hf.1 x j (hn x j hx.1 hx.2).1
  have eL : ∀ x j, a ≤ x ∧ x ≤ a + 8 → h'.2.1 x j = h.2.1 x j := fun x j hx => hf.2.1 x j (hn x j hx.1 hx.2).2
  obtain ⟨h1, h2, h3, h4, h5, h6, h7, h8, h9⟩ := hp
  exact ⟨fun k hk => by rw [e _ _ (by omega)]; exact h1 k hk, fun k hk => by rw [e _ _ (by omega)]; exact h2 k hk, by rw [e _ _ (by omega)]; exact h3, fun k hk => ⟨by rw [eL _ _ (by omega)]; exact (h4 k hk).1, by rw [e _ _ (by omega)]; exact (h4 k hk).2⟩, by rw [e _ _ (by omega)]; exact h5, fun k hk => ⟨by rw [eL _ _ (by omega)]; exact (h6 k hk).1, by rw [e _ _ (by omega)]; exact (h6 k hk).2⟩, by rw [e _ _ (by omega)]; exact h7, by rw [e _ _ (by omega)]; exact h8, fun i y hy => ⟨by rw [eL _ _ (by omega)]; exact (h9 i y hy).1, by rw [e _ _ (by omega)]; exact (h9 i y hy).2⟩⟩
theorem CVs.fg {A : Nat → Nat} {D : Nat} {V : Nat → RU} {P L : Nat → Nat → Prop} {h h' : kx_Mem} (hV : CVs A D V h) (hf : kx_Fg P L h h') (hn : ∀ x j, 4 ≤ x → ¬ P x j ∧ ¬ L x j) : CVs A D V h' := by
  obtain ⟨h1, h2, h3⟩ := hV
  refine ⟨by rw [hf.2.2]; exact h1, h2, fun u hu => ?_⟩
  obtain ⟨a1, a2, a3, a4, a5, a6⟩ := h3 u hu
  exact ⟨by rw [hf.2.2]; exact a1, a2, a3, a4, a5.fg hf (fun x j q1 q2 => hn x j (by have := a2.g; omega)), a6⟩
theorem x_Tc_fault {l : Launch} {g : kx_G} {d : Nat} {h : kx_Mem} (hs : SC h) (q : Int32) : kx_Sp l g m_Tc_fault [.ref 0, .int q] h (d) 0 0 (fun v h' => v = some (.int (if q = 0 then h.1 3 3 else if q = 1 then h.1 3 4 else -1)) ∧ h' = h) := by
  refine kx_enter_e (lv := [_, _]) (by decide +kernel) (Nat.le_of_ble_eq_true rfl) rfl ?_
  refine kx_iload_n (pc := 0) (kx_dd d_Tc_fault 0 rfl) rfl rfl ?_
  by_cases e1_0 : q = 0
  · refine kx_lookup (pc := 1) (tgt := 28) (kx_dd d_Tc_fault 1 rfl) (by decide) (by rw [e1_0] <;> rfl) rfl ?_
    refine kx_aload_n (pc := 28) (kx_dd d_Tc_fault 2 rfl) rfl rfl ?_
    refine kx_getR (pc := 29) (b := 3) fl_Tc_21 (hs.k 0 rfl) rfl (hs.r 1 rfl) (kx_dd d_Tc_fault 3 rfl) ?_
    refine kx_getI (pc := 32) fl_Tc_142 (hs.k 3 rfl) rfl (kx_dd d_Tc_fault 4 rfl) ?_
    refine kx_iret (pc := 35) rfl (kx_dd d_Tc_fault 5 rfl) (Nat.le_refl _) (Nat.le_refl _) ?_
    exact ⟨by rw [if_pos e1_0], rfl⟩
  · skip
    by_cases e1_1 : q = 1
    · refine kx_lookup (pc := 1) (tgt := 36) (kx_dd d_Tc_fault 1 rfl) (by decide) (by rw [e1_1] <;> rfl) rfl ?_
      refine kx_aload_n (pc := 36) (kx_dd d_Tc_fault 6 rfl) rfl rfl ?_
      refine kx_getR (pc := 37) (b := 3) fl_Tc_21 (hs.k 0 rfl) rfl (hs.r 1 rfl) (kx_dd d_Tc_fault 7 rfl) ?_
      refine kx_getI (pc := 40) fl_Tc_145 (hs.k 3 rfl) rfl (kx_dd d_Tc_fault 8 rfl) ?_
      refine kx_iret (pc := 43) rfl (kx_dd d_Tc_fault 9 rfl) (Nat.le_refl _) (Nat.le_refl _) ?_
      exact ⟨by rw [if_neg e1_0, if_pos e1_1], rfl⟩
    · skip
      refine kx_lookup (pc := 1) (tgt := 44) (kx_dd d_Tc_fault 1 rfl) (by decide) ((lv_osw e1_0 (by decide)).trans ((lv_osw e1_1 (by decide)).trans rfl)) rfl ?_
      refine kx_iconst (pc := 44) (v := -1) (kx_dd d_Tc_fault 10 rfl) rfl ?_
      refine kx_iret (pc := 45) rfl (kx_dd d_Tc_fault 11 rfl) (Nat.le_refl _) (Nat.le_refl _) ?_
      exact ⟨by rw [if_neg e1_0, if_neg e1_1], rfl⟩
theorem x_Tc_force {l : Launch} {g : kx_G} {d : Nat} {h : kx_Mem} (hs : SC h) (q : Int32) : kx_Sp l g m_Tc_force [.ref 0, .int q] h (d + 1) 0 0 (fun v h' => (vrs q ∧ v = some (.int (h.1 0 10)) ∧ h' = kx_setI h 0 10 q) ∨ (¬ vrs q ∧ v = some (.int (-2)) ∧ h' = h)) := by
  refine kx_enter_e (lv := [_, _, _]) (by decide +kernel) (Nat.le_of_ble_eq_true rfl) rfl ?_
  refine kx_iload_n (pc := 0) (kx_dd d_Tc_force 0 rfl) rfl rfl ?_
  refine kx_iconst (pc := 1) (v := 0) (kx_dd d_Tc_force 1 rfl) rfl ?_
  refine kx_iconst (pc := 2) (v := 3) (kx_dd d_Tc_force 2 rfl) rfl ?_
  refine kx_invS (pc := 3) (as := [_, _, _]) (kx_dd d_Tc_force 3 rfl) ⟨lk_Tc_90, wt_Tc_within⟩ w_Tc_within rfl rfl (Nat.le_of_ble_eq_true rfl) (x_Tc_within (d := d) q 0 3) (Nat.le_refl _) ⟨Nat.le_refl _, Nat.le_refl _⟩ (fun v h' hq => ?_)
  obtain ⟨rfl, he⟩ := hq
  rw [he]
  clear he
  refine kx_if_ne (pc := 6) (tgt := 12) (kx_dd d_Tc_force 4 rfl) rfl (fun c6 => ?_) (fun c6 => ?_)
  · refine kx_aload_n (pc := 12) (kx_dd d_Tc_force 7 rfl) rfl rfl ?_
    refine kx_getI (pc := 13) fl_Tc_148 (hs.k 0 rfl) rfl (kx_dd d_Tc_force 8 rfl) ?_
    refine kx_istore_ne (pc := 16) (lv' := [_, _, _]) (kx_dd d_Tc_force 9 rfl) rfl (Nat.le_of_ble_eq_true rfl) rfl ?_
    refine kx_aload_n (pc := 17) (kx_dd d_Tc_force 10 rfl) rfl rfl ?_
    refine kx_iload_n (pc := 18) (kx_dd d_Tc_force 11 rfl) rfl rfl ?_
    refine kx_putI (pc := 19) fl_Tc_148 (hs.k 0 rfl) (by decide) rfl rfl (kx_dd d_Tc_force 12 rfl) ?_
    refine kx_iload_n (pc := 22) (kx_dd d_Tc_force 13 rfl) rfl rfl ?_
    refine kx_iret (pc := 23) rfl (kx_dd d_Tc_force 14 rfl) (Nat.le_refl _) (Nat.le_refl _) ?_
    exact Or.inl ⟨Classical.not_not.mp (fun x => c6 (bP_0.mpr x)), rfl, rfl⟩
  · refine kx_bipush (pc := 9) (v := -2) (kx_dd d_Tc_force 5 rfl) rfl ?_
    refine kx_iret (pc := 11) rfl (kx_dd d_Tc_force 6 rfl) (Nat.le_refl _) (Nat.le_refl _) ?_
    rw [bP_0] at c6
    exact Or.inr ⟨c6, rfl, rfl⟩
theorem x_Tc_versionAt {l : Launch} {g : kx_G} {d : Nat} {h : kx_Mem} (hs : SC h) (A : Nat → Nat) (D : Nat) (V : Nat → RU) (hV : CVs A D V h) (q : Int32) : kx_Sp l g m_Tc_versionAt [.ref 0, .int q] h (d + 1) 0 0 (fun v h' => (∃ v9, v9 < 4 ∧ q = nI v9 ∧ v = some (.ref (A v9)) ∧ h' = h) ∨ (¬ vrs q ∧ v = some .null ∧ h' = h)) := by
  refine kx_enter_e (lv := [_, _]) (by decide +kernel) (Nat.le_of_ble_eq_true rfl) rfl ?_
  refine kx_iload_n (pc := 0) (kx_dd d_Tc_versionAt 0 rfl) rfl rfl ?_
  refine kx_iconst (pc := 1) (v := 0) (kx_dd d_Tc_versionAt 1 rfl) rfl ?_
  refine kx_iconst (pc := 2) (v := 3) (kx_dd d_Tc_versionAt 2 rfl) rfl ?_
  refine kx_invS (pc := 3) (as := [_, _, _]) (kx_dd d_Tc_versionAt 3 rfl) ⟨lk_Tc_90, wt_Tc_within⟩ w_Tc_within rfl rfl (Nat.le_of_ble_eq_true rfl) (x_Tc_within (d := d) q 0 3) (Nat.le_refl _) ⟨Nat.le_refl _, Nat.le_refl _⟩ (fun v h' hq => ?_)
  obtain ⟨rfl, he⟩ := hq
  rw [he]
  clear he
  refine kx_if_eq (pc := 6) (tgt := 18) (kx_dd d_Tc_versionAt 4 rfl) rfl (fun c6 => ?_) (fun c6 => ?_)
  · refine kx_null (pc := 18) (kx_dd d_Tc_versionAt 10 rfl) ?_
    refine kx_aret (pc := 19) (r := none) rfl (Or.inl ⟨_, rfl⟩) (kx_dd d_Tc_versionAt 11 rfl) (Nat.le_refl _) (Nat.le_refl _) ?_
    rw [bP_0] at c6
    exact Or.inr ⟨c6, rfl, rfl⟩
  · have c6 : vrs q := Classical.not_not.mp (fun x => c6 (bP_0.mpr x))
    obtain ⟨v9, hv9, rfl⟩ := vrs_n c6
    refine kx_aload_n (pc := 9) (kx_dd d_Tc_versionAt 5 rfl) rfl rfl ?_
    refine kx_getR (pc := 10) (b := 13) fl_Tc_27 (hs.k 0 rfl) rfl (hs.r 2 rfl) (kx_dd d_Tc_versionAt 6 rfl) ?_
    refine kx_iload_n (pc := 13) (kx_dd d_Tc_versionAt 7 rfl) rfl rfl ?_
    refine kx_aldn (pc := 14) (b := (A v9)) v9 (hs.t 13 rfl) (by decide) rfl hv9 (by decide) (hV.2.2 v9 hv9).1 (kx_dd d_Tc_versionAt 8 rfl) ?_
    refine kx_goto (pc := 15) (tgt := 19) (kx_dd d_Tc_versionAt 9 rfl) rfl ?_
    refine kx_aret (pc := 19) (r := some ((A v9))) rfl (Or.inl ⟨_, rfl⟩) (kx_dd d_Tc_versionAt 11 rfl) (Nat.le_refl _) (Nat.le_refl _) ?_
    exact Or.inl ⟨v9, hv9, rfl, rfl, rfl⟩
theorem vrs_i {v : Nat} (h : v < 4) : vrs (nI v) := ⟨nI_pos' (by omega), (nI_leI (b := 3) (by omega) (by decide)).mpr (by omega)⟩
theorem x_Tc_rule {l : Launch} {g : kx_G} {d : Nat} {h : kx_Mem} (hs : SC h) (A : Nat → Nat) (D : Nat) (V : Nat → RU) (hV : CVs A D V h) (q : Int32) (w : Int32) : kx_Sp l g m_Tc_rule [.ref 0, .int q, .int w] h (d + 2) 0 0 (fun v h' => v = some (.int (@ite _ (vrs q) (Classical.propDecidable _) (detR (V q.toNatClampNeg) w) (-9))) ∧ h' = h) := by
  refine kx_enter_e (lv := [_, _, _, _]) (by decide +kernel) (Nat.le_of_ble_eq_true rfl) rfl ?_
  refine kx_aload_n (pc := 0) (kx_dd d_Tc_rule 0 rfl) rfl rfl ?_
  refine kx_iload_n (pc := 1) (kx_dd d_Tc_rule 1 rfl) rfl rfl ?_
  refine kx_invV (pc := 2) (a := 0) (as := [_]) (kx_dd d_Tc_rule 2 rfl) ⟨lk_Tc_151, wi_Tc_versionAt, we_Tc_versionAt⟩ w_Tc_versionAt (hs.k 0 rfl) rfl rfl rfl rfl (Nat.le_of_ble_eq_true rfl) (x_Tc_versionAt (d := d) hs A D V hV q) (Nat.le_refl _) ⟨Nat.le_refl _, Nat.le_refl _⟩ (fun v h' hq => ?_)
  rcases hq with ⟨v9, hv9, rfl, rfl, he⟩ | ⟨hnv, rfl, he⟩
  · rw [he]
    clear he
    refine kx_astore_ne (pc := 5) (lv' := [_, _, _, _]) (kx_dd d_Tc_rule 3 rfl) rfl (Nat.le_of_ble_eq_true rfl) rfl ?_
    refine kx_aload_n (pc := 6) (kx_dd d_Tc_rule 4 rfl) rfl rfl ?_
    refine kx_ifnonnull (pc := 7) (tgt := 15) (kx_dd d_Tc_rule 5 rfl) rfl ?_
    refine kx_aload_n (pc := 15) (kx_dd d_Tc_rule 8 rfl) rfl rfl ?_
    refine kx_iload_n (pc := 16) (kx_dd d_Tc_rule 9 rfl) rfl rfl ?_
    refine kx_invV (pc := 17) (a := (A v9)) (as := [_]) (kx_dd d_Tc_rule 10 rfl) ⟨lk_Tc_155, wi_Ru_detail, we_Ru_detail⟩ w_Ru_detail (congrArg Prod.fst (IsRu.of hs (hV.2.2 v9 hv9).2.1).1) rfl rfl rfl rfl (Nat.le_of_ble_eq_true rfl) (x_Ru_detail (d := d + 1) (A v9) (IsRu.of hs (hV.2.2 v9 hv9).2.1) (V v9) (hV.2.2 v9 hv9).2.2.2.1 (hV.2.2 v9 hv9).2.2.2.2.1 w) (Nat.le_refl _) ⟨Nat.le_refl _, Nat.le_refl _⟩ (fun v h' hq => ?_)
    obtain ⟨rfl, he⟩ := hq
    rw [he]
    clear he
    refine kx_iret (pc := 20) rfl (kx_dd d_Tc_rule 11 rfl) (Nat.le_refl _) (Nat.le_refl _) ?_
    refine ⟨?_, rfl⟩
    rw [if_pos (vrs_i hv9), nI_clamp (by omega)]
  · rw [he]
    clear he
    refine kx_astore_neN (pc := 5) (lv' := [_, _, _, _]) (kx_dd d_Tc_rule 3 rfl) rfl (Nat.le_of_ble_eq_true rfl) rfl ?_
    refine kx_aload_nN (pc := 6) (kx_dd d_Tc_rule 4 rfl) rfl rfl ?_
    refine kx_ifnonnullN (pc := 7) (kx_dd d_Tc_rule 5 rfl) ?_
    refine kx_bipush (pc := 10) (v := -9) (kx_dd d_Tc_rule 6 rfl) rfl ?_
    refine kx_goto (pc := 12) (tgt := 20) (kx_dd d_Tc_rule 7 rfl) rfl ?_
    refine kx_iret (pc := 20) rfl (kx_dd d_Tc_rule 11 rfl) (Nat.le_refl _) (Nat.le_refl _) ?_
    refine ⟨?_, rfl⟩
    rw [if_neg hnv]
def PoV (F : RU → Nat → Int32) (b : Nat → Int32) (n : Nat) (V : Nat → RU) (q : Int32) (h : kx_Mem) (v : Option Value) (h' : kx_Mem) : Prop := kx_Fg (fun a j => a = 1 ∧ 1 ≤ j ∧ j ≤ 5) FtL h h' ∧ h'.1 1 1 = 0 ∧ ((¬ vrs q ∧ v = some (.int (-2))) ∨ ∃ v9, v9 < 4 ∧ q = nI v9 ∧ ((oneW b n = 0 ∧ v = some (.int (-1))) ∨ (0 < oneW b n ∧ v = some (.int (F (V v9) (oneW b n))))))
theorem oneW_lt (b : Nat → Int32) (n : Nat) : oneW b n < 2 ^ 60 := by
  unfold oneW
  split
  next c => exact (tW_lt (Nat.zero_le n) c.1).2
  · decide
theorem x_Tc_need {l : Launch} {g : kx_G} {d : Nat} {h : kx_Mem} (hs : SC h) (b : Nat → Int32) (n : Nat) (ht : TapC b n h) (A : Nat → Nat) (D : Nat) (V : Nat → RU) (hV : CVs A D V h) (q : Int32) : kx_Sp l g m_Tc_need [.ref 0, .int q] h (d + 4) 0 0 (fun v h' => PoV (fun r w => nI (nedF r w)) b n V q h v h') := by
  refine kx_enter_e (lv := [_, _, _, _, _]) (by decide +kernel) (Nat.le_of_ble_eq_true rfl) rfl ?_
  refine kx_aload_n (pc := 0) (kx_dd d_Tc_need 0 rfl) rfl rfl ?_
  refine kx_getR (pc := 1) (b := 1) fl_Tc_10 (hs.k 0 rfl) rfl (hs.r 0 rfl) (kx_dd d_Tc_need 1 rfl) ?_
  refine kx_invV (pc := 4) (a := 1) (as := []) (kx_dd d_Tc_need 2 rfl) ⟨lk_Tc_158, wi_Ta_takeWord, we_Ta_takeWord⟩ w_Ta_takeWord (hs.k 1 rfl) rfl rfl rfl rfl (Nat.le_of_ble_eq_true rfl) (x_Ta_takeWord (d := d) hs b n ht) (Nat.le_refl _) ⟨Nat.le_refl _, Nat.le_refl _⟩ (fun v h' hq => ?_)
  revert h'
  intro h1 hq
  obtain ⟨rfl, hf1, e11⟩ := hq
  have hs : SC h1 := hs.fg hf1
  have hV : CVs A D V h1 := hV.fg hf1 (fun x j hx => ⟨by omega, by unfold FtL; omega⟩)
  refine kx_lstore_ne (pc := 7) (lv' := [_, _, _, _, _]) (kx_dd d_Tc_need 3 rfl) rfl (Nat.le_of_ble_eq_true rfl) rfl ?_
  refine kx_aload_n (pc := 8) (kx_dd d_Tc_need 4 rfl) rfl rfl ?_
  refine kx_iload_n (pc := 9) (kx_dd d_Tc_need 5 rfl) rfl rfl ?_
  refine kx_invV (pc := 10) (a := 0) (as := [_]) (kx_dd d_Tc_need 6 rfl) ⟨lk_Tc_151, wi_Tc_versionAt, we_Tc_versionAt⟩ w_Tc_versionAt (hs.k 0 rfl) rfl rfl rfl rfl (Nat.le_of_ble_eq_true rfl) (x_Tc_versionAt (d := d + 2) hs A D V hV q) (Nat.le_refl _) ⟨Nat.le_refl _, Nat.le_refl _⟩ (fun v h' hq => ?_)
  rcases hq with ⟨v9, hv9, rfl, rfl, he⟩ | ⟨hnv, rfl, he⟩
  · rw [he]
    clear he
    refine kx_astore_e (pc := 13) (lv' := [_, _, _, _, _]) (kx_dd d_Tc_need 7 rfl) (Nat.le_of_ble_eq_true rfl) rfl ?_
    refine kx_aload (pc := 15) (kx_dd d_Tc_need 8 rfl) rfl ?_
    refine kx_ifnonnull (pc := 17) (tgt := 23) (kx_dd d_Tc_need 9 rfl) rfl ?_
    refine kx_lload_n (pc := 23) (kx_dd d_Tc_need 12 rfl) rfl rfl ?_
    refine kx_lconst (pc := 24) (v := 0) (kx_dd d_Tc_need 13 rfl) rfl ?_
    refine kx_lcmp (pc := 25) (kx_dd d_Tc_need 14 rfl) ?_
    refine kx_if_ne (pc := 26) (tgt := 33) (kx_dd d_Tc_need 15 rfl) rfl (fun c26 => ?_) (fun c26 => ?_)
    · refine kx_aload (pc := 33) (kx_dd d_Tc_need 18 rfl) rfl ?_
      refine kx_lload_n (pc := 35) (kx_dd d_Tc_need 19 rfl) rfl rfl ?_
      refine kx_invV (pc := 36) (a := (A v9)) (as := [_]) (kx_dd d_Tc_need 20 rfl) ⟨lk_Tc_162, wi_Ru_needOf, we_Ru_needOf⟩ w_Ru_needOf (congrArg Prod.fst (IsRu.of hs (hV.2.2 v9 hv9).2.1).1) rfl rfl rfl rfl (Nat.le_of_ble_eq_true rfl) (x_Ru_needOf (d := d + 2) (A v9) (IsRu.of hs (hV.2.2 v9 hv9).2.1) (V v9) (hV.2.2 v9 hv9).2.2.2.1 (hV.2.2 v9 hv9).2.2.2.2.1 (oneW b n) (oneW_lt b n)) (Nat.le_refl _) ⟨Nat.le_refl _, Nat.le_refl _⟩ (fun v h' hq => ?_)
      obtain ⟨rfl, he⟩ := hq
      rw [he]
      clear he
      refine kx_iret (pc := 39) rfl (kx_dd d_Tc_need 21 rfl) (Nat.le_refl _) (Nat.le_refl _) ?_
      rw [show (0 : Int64) = lN 0 from rfl, lcmp0 (oneW_lt b n) (by decide)] at c26
      exact ⟨hf1, e11, Or.inr ⟨v9, hv9, rfl, Or.inr ⟨by omega, rfl⟩⟩⟩
    · refine kx_iconst (pc := 29) (v := -1) (kx_dd d_Tc_need 16 rfl) rfl ?_
      refine kx_goto (pc := 30) (tgt := 39) (kx_dd d_Tc_need 17 rfl) rfl ?_
      refine kx_iret (pc := 39) rfl (kx_dd d_Tc_need 21 rfl) (Nat.le_refl _) (Nat.le_refl _) ?_
      rw [show (0 : Int64) = lN 0 from rfl, lcmp0 (oneW_lt b n) (by decide)] at c26
      exact ⟨hf1, e11, Or.inr ⟨v9, hv9, rfl, Or.inl ⟨c26, rfl⟩⟩⟩
  · rw [he]
    clear he
    refine kx_astore_eN (pc := 13) (lv' := [_, _, _, _, _]) (kx_dd d_Tc_need 7 rfl) (Nat.le_of_ble_eq_true rfl) rfl ?_
    refine kx_aloadN (pc := 15) (kx_dd d_Tc_need 8 rfl) rfl ?_
    refine kx_ifnonnullN (pc := 17) (kx_dd d_Tc_need 9 rfl) ?_
    refine kx_bipush (pc := 20) (v := -2) (kx_dd d_Tc_need 10 rfl) rfl ?_
    refine kx_iret (pc := 22) rfl (kx_dd d_Tc_need 11 rfl) (Nat.le_refl _) (Nat.le_refl _) ?_
    exact ⟨hf1, e11, Or.inl ⟨hnv, rfl⟩⟩
theorem x_Tc_kind {l : Launch} {g : kx_G} {d : Nat} {h : kx_Mem} (hs : SC h) (b : Nat → Int32) (n : Nat) (ht : TapC b n h) (A : Nat → Nat) (D : Nat) (V : Nat → RU) (hV : CVs A D V h) (q : Int32) : kx_Sp l g m_Tc_kind [.ref 0, .int q] h (d + 4) 0 0 (fun v h' => PoV (fun r w => oI (kiF r w)) b n V q h v h') := by
  refine kx_enter_e (lv := [_, _, _, _, _]) (by decide +kernel) (Nat.le_of_ble_eq_true rfl) rfl ?_
  refine kx_aload_n (pc := 0) (kx_dd d_Tc_kind 0 rfl) rfl rfl ?_
  refine kx_getR (pc := 1) (b := 1) fl_Tc_10 (hs.k 0 rfl) rfl (hs.r 0 rfl) (kx_dd d_Tc_kind 1 rfl) ?_
  refine kx_invV (pc := 4) (a := 1) (as := []) (kx_dd d_Tc_kind 2 rfl) ⟨lk_Tc_158, wi_Ta_takeWord, we_Ta_takeWord⟩ w_Ta_takeWord (hs.k 1 rfl) rfl rfl rfl rfl (Nat.le_of_ble_eq_true rfl) (x_Ta_takeWord (d := d) hs b n ht) (Nat.le_refl _) ⟨Nat.le_refl _, Nat.le_refl _⟩ (fun v h' hq => ?_)
  revert h'
  intro h1 hq
  obtain ⟨rfl, hf1, e11⟩ := hq
  have hs : SC h1 := hs.fg hf1
  have hV : CVs A D V h1 := hV.fg hf1 (fun x j hx => ⟨by omega, by unfold FtL; omega⟩)
  refine kx_lstore_ne (pc := 7) (lv' := [_, _, _, _, _]) (kx_dd d_Tc_kind 3 rfl) rfl (Nat.le_of_ble_eq_true rfl) rfl ?_
  refine kx_aload_n (pc := 8) (kx_dd d_Tc_kind 4 rfl) rfl rfl ?_
  refine kx_iload_n (pc := 9) (kx_dd d_Tc_kind 5 rfl) rfl rfl ?_
  refine kx_invV (pc := 10) (a := 0) (as := [_]) (kx_dd d_Tc_kind 6 rfl) ⟨lk_Tc_151, wi_Tc_versionAt, we_Tc_versionAt⟩ w_Tc_versionAt (hs.k 0 rfl) rfl rfl rfl rfl (Nat.le_of_ble_eq_true rfl) (x_Tc_versionAt (d := d + 2) hs A D V hV q) (Nat.le_refl _) ⟨Nat.le_refl _, Nat.le_refl _⟩ (fun v h' hq => ?_)
  rcases hq with ⟨v9, hv9, rfl, rfl, he⟩ | ⟨hnv, rfl, he⟩
  · rw [he]
    clear he
    refine kx_astore_e (pc := 13) (lv' := [_, _, _, _, _]) (kx_dd d_Tc_kind 7 rfl) (Nat.le_of_ble_eq_true rfl) rfl ?_
    refine kx_aload (pc := 15) (kx_dd d_Tc_kind 8 rfl) rfl ?_
    refine kx_ifnonnull (pc := 17) (tgt := 23) (kx_dd d_Tc_kind 9 rfl) rfl ?_
    refine kx_lload_n (pc := 23) (kx_dd d_Tc_kind 12 rfl) rfl rfl ?_
    refine kx_lconst (pc := 24) (v := 0) (kx_dd d_Tc_kind 13 rfl) rfl ?_
    refine kx_lcmp (pc := 25) (kx_dd d_Tc_kind 14 rfl) ?_
    refine kx_if_ne (pc := 26) (tgt := 33) (kx_dd d_Tc_kind 15 rfl) rfl (fun c26 => ?_) (fun c26 => ?_)
    · refine kx_aload (pc := 33) (kx_dd d_Tc_kind 18 rfl) rfl ?_
      refine kx_lload_n (pc := 35) (kx_dd d_Tc_kind 19 rfl) rfl rfl ?_
      refine kx_invV (pc := 36) (a := (A v9)) (as := [_]) (kx_dd d_Tc_kind 20 rfl) ⟨lk_Tc_166, wi_Ru_kindOf, we_Ru_kindOf⟩ w_Ru_kindOf (congrArg Prod.fst (IsRu.of hs (hV.2.2 v9 hv9).2.1).1) rfl rfl rfl rfl (Nat.le_of_ble_eq_true rfl) (x_Ru_kindOf (d := d + 3) (A v9) (IsRu.of hs (hV.2.2 v9 hv9).2.1) (V v9) (hV.2.2 v9 hv9).2.2.2.1 (hV.2.2 v9 hv9).2.2.2.2.1 (oneW b n) (oneW_lt b n)) (Nat.le_refl _) ⟨Nat.le_refl _, Nat.le_refl _⟩ (fun v h' hq => ?_)
      obtain ⟨rfl, he⟩ := hq
      rw [he]
      clear he
      refine kx_iret (pc := 39) rfl (kx_dd d_Tc_kind 21 rfl) (Nat.le_refl _) (Nat.le_refl _) ?_
      rw [show (0 : Int64) = lN 0 from rfl, lcmp0 (oneW_lt b n) (by decide)] at c26
      exact ⟨hf1, e11, Or.inr ⟨v9, hv9, rfl, Or.inr ⟨by omega, rfl⟩⟩⟩
    · refine kx_iconst (pc := 29) (v := -1) (kx_dd d_Tc_kind 16 rfl) rfl ?_
      refine kx_goto (pc := 30) (tgt := 39) (kx_dd d_Tc_kind 17 rfl) rfl ?_
      refine kx_iret (pc := 39) rfl (kx_dd d_Tc_kind 21 rfl) (Nat.le_refl _) (Nat.le_refl _) ?_
      rw [show (0 : Int64) = lN 0 from rfl, lcmp0 (oneW_lt b n) (by decide)] at c26
      exact ⟨hf1, e11, Or.inr ⟨v9, hv9, rfl, Or.inl ⟨c26, rfl⟩⟩⟩
  · rw [he]
    clear he
    refine kx_astore_eN (pc := 13) (lv' := [_, _, _, _, _]) (kx_dd d_Tc_kind 7 rfl) (Nat.le_of_ble_eq_true rfl) rfl ?_
    refine kx_aloadN (pc := 15) (kx_dd d_Tc_kind 8 rfl) rfl ?_
    refine kx_ifnonnullN (pc := 17) (kx_dd d_Tc_kind 9 rfl) ?_
    refine kx_bipush (pc := 20) (v := -2) (kx_dd d_Tc_kind 10 rfl) rfl ?_
    refine kx_iret (pc := 22) rfl (kx_dd d_Tc_kind 11 rfl) (Nat.le_refl _) (Nat.le_refl _) ?_
    exact ⟨hf1, e11, Or.inl ⟨hnv, rfl⟩⟩
theorem setR_at' {h : kx_Mem} {a j : Nat} {v : Option Nat} : (kx_setR h a j v).2.2.1 a j = v := by simp [kx_setR, kx_up]
theorem setR_ne' {h : kx_Mem} {a j b k : Nat} {v : Option Nat} (hn : b ≠ a ∨ k ≠ j) : (kx_setR h a j v).2.2.1 b k = h.2.2.1 b k := by
  show kx_up h.2.2.1 a j v b k = _
  unfold kx_up
  split
  next e => rw [if_neg (fun z => by rcases hn with q | q; exact q e; exact q z)]
  next => rfl
theorem rC_no : ∀ q ∈ rC, ¬ (q.1 = 3 ∧ q.2.1 = 1) ∧ q.1 ≠ 13 := by decide
theorem SC_r {h : kx_Mem} {a j : Nat} {v : Option Nat} (hs : SC h) (ha : (a = 3 ∧ j = 1) ∨ a = 13) : SC (kx_setR h a j v) := ⟨fun q hq => by
  have := rC_no q hq
  rw [setR_ne' (by omega)]
  exact hs.1 q hq, hs.2⟩
theorem rdF_cnt {b : Nat → Int32} {n : Nat} : ∀ f i r td cnt x, rdF b n f i r td cnt = .inr x → x.2 ≤ cnt + f
  | 0, i, r, td, cnt, x, h => by cases h; exact Nat.le_refl _
  | f + 1, i, r, td, cnt, x, h => by
    by_cases c : tK b n i = 0
    · rw [rdG_e c] at h
      cases h
      exact Nat.le_add_right _ _
    · cases hc : clF b n i r td with
      | inl z => rw [rdG_z c hc] at h; cases h
      | inr q =>
        rw [rdG_s c hc] at h
        have := rdF_cnt f _ _ _ _ x h
        omega
theorem PoR_or {a : Nat} {h h' : kx_Mem} {v : Option Value} {R : Fa ⊕ (RU × Nat)} (hq : PoR a h v h' R) : kx_Fe a h h' ∧ ((∃ f, R = .inl f ∧ v = some (.int (-1)) ∧ FaQ f h') ∨ ∃ x, R = .inr x ∧ v = some (.int (nI x.2)) ∧ RUok x.1 ∧ RUc x.1 a h' ∧ h'.1 3 3 = 0 ∧ h'.1 3 4 = -1) := by
  obtain ⟨h1, h2⟩ := hq
  refine ⟨h1, ?_⟩
  cases R with
  | inl f => exact Or.inl ⟨f, rfl, h2⟩
  | inr x => exact Or.inr ⟨x, rfl, h2⟩
def FrQ (a : Nat) : Prop := a = 1 ∨ a = 3 ∨ (4 ≤ a ∧ a ≤ 12) ∨ (48 ≤ a ∧ a ≤ 83)
def kx_Fq (h h' : kx_Mem) : Prop := (∀ a j, ¬ FrQ a → h'.1 a j = h.1 a j) ∧ (∀ a j, ¬ FrQ a → h'.2.1 a j = h.2.1 a j) ∧ (∀ a j, ¬ ((a = 3 ∧ j = 1) ∨ a = 13) → h'.2.2.1 a j = h.2.2.1 a j) ∧ h'.2.2.2 = h.2.2.2
theorem isRuA.dj {a c : Nat} (h1 : isRuA a) (h2 : isRuA c) (hn : a ≠ c) : a + 8 < c ∨ c + 8 < a := by unfold isRuA at h1 h2; omega
theorem isRuA.q {a : Nat} (h1 : isRuA a) : ∀ x, a ≤ x → x ≤ a + 8 → FrQ x := fun x q1 q2 => by unfold isRuA at h1; unfold FrQ; omega
def PoC (b : Nat → Int32) (n : Nat) (A : Nat → Nat) (D : Nat) (V : Nat → RU) (q : Int32) (h : kx_Mem) (v : Option Value) (h' : kx_Mem) : Prop := SC h' ∧ kx_Fq h h' ∧ h'.1 1 1 = 0 ∧
  ((¬ vrs q ∧ v = some (.int (-2)) ∧ CVs A D V h' ∧ h'.1 3 3 = h.1 3 3 ∧ h'.1 3 4 = h.1 3 4) ∨ ∃ v9, v9 < 4 ∧ q = nI v9 ∧ ((∃ f, rdF b n (n + 1) 0 ru0 0 0 = .inl f ∧ v = some (.int (-1)) ∧ FaQ f h' ∧ CVs A D V h') ∨
    ∃ x, rdF b n (n + 1) 0 ru0 0 0 = .inr x ∧ v = some (.int (nI x.2)) ∧ h'.1 3 3 = 0 ∧ h'.1 3 4 = -1 ∧ CVs (upF A v9 D) (A v9) (upF V v9 x.1) h'))
theorem CVs.read {A : Nat → Nat} {D : Nat} {V : Nat → RU} {h h' : kx_Mem} (hV : CVs A D V h) (hf : kx_Fe D h h') : CVs A D V h' := by
  obtain ⟨h1, h2, h3⟩ := hV
  refine ⟨by rw [hf.2.2]; exact h1, h2, fun u hu => ?_⟩
  obtain ⟨a1, a2, a3, a4, a5, a6⟩ := h3 u hu
  exact ⟨by rw [hf.2.2]; exact a1, a2, a3, a4, a5.fg hf (fun x j q1 q2 => by have := a2.dj h2 a3; have := a2.g; unfold FrI FrL; omega), a6⟩
theorem CVs.one {A : Nat → Nat} {D : Nat} {V : Nat → RU} {h : kx_Mem} {x : Int32} (hV : CVs A D V h) : CVs A D V (kx_setI h 1 1 x) := hV.fg (kx_Fg.setI (P := fun a j => a = 1 ∧ j = 1) (L := fun _ _ => False) ⟨rfl, rfl⟩) (fun x j hx => ⟨by omega, id⟩)
theorem kx_Fq.of {D : Nat} {h h' : kx_Mem} {x : Int32} (hD : isRuA D) (hf : kx_Fe D h h') : kx_Fq h (kx_setI h' 1 1 x) := by
  refine ⟨fun a j ha => ?_, fun a j ha => ?_, fun a j _ => by show h'.2.2.1 a j = _; rw [hf.2.2], by show h'.2.2.2 = _; rw [hf.2.2]⟩
  · rw [setI_ne (Or.inl (fun z => ha (Or.inl z)))]
    refine hf.1 a j (fun z => ha ?_)
    unfold FrI at z
    rcases z with (z | z | z) | z
    · exact Or.inl z.1
    · exact Or.inr (Or.inl z.1)
    · exact hD.q a z.1 z.2
    · exact Or.inr (Or.inl z.1)
  · refine hf.2.1 a j (fun z => ha ?_)
    unfold FrL at z
    rcases z with z | z
    · exact Or.inl z.1
    · exact hD.q a z.1 z.2
theorem CVs.swap {A : Nat → Nat} {D : Nat} {V : Nat → RU} {h : kx_Mem} {v9 : Nat} {r : RU} (hV : CVs A D V h) (hv : v9 < 4) (ho : RUok r) (hp : RUc r D h) : CVs (upF A v9 D) (A v9) (upF V v9 r) (kx_setR (kx_setR h 3 1 (some (A v9))) 13 v9 (some D)) := by
  obtain ⟨h1, h2, h3⟩ := hV
  obtain ⟨a1, a2, a3, a4, a5, a6⟩ := h3 v9 hv
  refine ⟨by rw [setR_ne' (Or.inl (by decide))]; exact setR_at', a2, fun u hu => ?_⟩
  by_cases e : u = v9
  · subst e
    rw [show upF A u D u = D from if_pos rfl, show upF V u r u = r from if_pos rfl]
    refine ⟨setR_at', h2, fun z => a3 z.symm, ho, hp, fun u' hu' hn => ?_⟩
    rw [show upF A u D u' = A u' from if_neg hn]
    exact (h3 u' hu').2.2.1
  · obtain ⟨b1, b2, b3, b4, b5, b6⟩ := h3 u hu
    rw [show upF A v9 D u = A u from if_neg e, show upF V v9 r u = V u from if_neg e]
    refine ⟨by rw [setR_ne' (Or.inr e), setR_ne' (Or.inl (by decide))]; exact b1, b2, fun z => b6 v9 hv (fun q => e q.symm) z.symm, b4, b5, fun u' hu' hn => ?_⟩
    by_cases e2 : u' = v9
    · rw [show upF A v9 D u' = D from if_pos e2]
      exact fun z => b3 z.symm
    · rw [show upF A v9 D u' = A u' from if_neg e2]
      exact b6 u' hu' hn
theorem x_Tc_rules {l : Launch} {g : kx_G} {d : Nat} {h : kx_Mem} (hs : SC h) (b : Nat → Int32) (n : Nat) (ht : TapC b n h) (A : Nat → Nat) (D : Nat) (V : Nat → RU) (hV : CVs A D V h) (q : Int32) : kx_Sp l g m_Tc_rules [.ref 0, .int q] h (d + 9) 0 0 (fun v h' => PoC b n A D V q h v h') := by
  refine kx_enter_e (lv := [_, _, _]) (by decide +kernel) (Nat.le_of_ble_eq_true rfl) rfl ?_
  refine kx_iload_n (pc := 0) (kx_dd d_Tc_rules 0 rfl) rfl rfl ?_
  refine kx_iconst (pc := 1) (v := 0) (kx_dd d_Tc_rules 1 rfl) rfl ?_
  refine kx_iconst (pc := 2) (v := 3) (kx_dd d_Tc_rules 2 rfl) rfl ?_
  refine kx_invS (pc := 3) (as := [_, _, _]) (kx_dd d_Tc_rules 3 rfl) ⟨lk_Tc_90, wt_Tc_within⟩ w_Tc_within rfl rfl (Nat.le_of_ble_eq_true rfl) (x_Tc_within (d := d + 8) q 0 3) (Nat.le_refl _) ⟨Nat.le_refl _, Nat.le_refl _⟩ (fun v h' hq => ?_)
  obtain ⟨rfl, he⟩ := hq
  rw [he]
  clear he
  refine kx_if_ne (pc := 6) (tgt := 19) (kx_dd d_Tc_rules 4 rfl) rfl (fun c6 => ?_) (fun c6 => ?_)
  · have c6 : vrs q := Classical.not_not.mp (fun x => c6 (bP_0.mpr x))
    obtain ⟨v9, hv9, rfl⟩ := vrs_n c6
    refine kx_aload_n (pc := 19) (kx_dd d_Tc_rules 10 rfl) rfl rfl ?_
    refine kx_getR (pc := 20) (b := 3) fl_Tc_21 (hs.k 0 rfl) rfl (hs.r 1 rfl) (kx_dd d_Tc_rules 11 rfl) ?_
    refine kx_invV (pc := 23) (a := 3) (as := []) (kx_dd d_Tc_rules 12 rfl) ⟨lk_Tc_135, wi_Re_readRules, we_Re_readRules⟩ w_Re_readRules (hs.k 3 rfl) rfl rfl rfl rfl (Nat.le_of_ble_eq_true rfl) (x_Re_readRules (d := d) hs D hV.2.1 b n ht hV.1) (Nat.le_refl _) ⟨Nat.le_refl _, Nat.le_refl _⟩ (fun v h' hq => ?_)
    revert h'
    intro h1 hq
    obtain ⟨hF1, hq⟩ := PoR_or hq
    have hs : SC h1 := hs.fg hF1
    have hV1 := hV.read hF1
    have hFq := kx_Fq.of (x := 0) hV.2.1 hF1
    rcases hq with ⟨f, hX, rfl, hfa⟩ | ⟨x, hX, rfl, ho9, hp9, g1, g2⟩
    · skip
      refine kx_istore_ne (pc := 26) (lv' := [_, _, _]) (kx_dd d_Tc_rules 13 rfl) rfl (Nat.le_of_ble_eq_true rfl) rfl ?_
      refine kx_aload_n (pc := 27) (kx_dd d_Tc_rules 14 rfl) rfl rfl ?_
      refine kx_getR (pc := 28) (b := 1) fl_Tc_10 (hs.k 0 rfl) rfl (hs.r 0 rfl) (kx_dd d_Tc_rules 15 rfl) ?_
      refine kx_invV (pc := 31) (a := 1) (as := []) (kx_dd d_Tc_rules 16 rfl) ⟨lk_Tc_132, wi_Ta_clear, we_Ta_clear⟩ w_Ta_clear (hs.k 1 rfl) rfl rfl rfl rfl (Nat.le_of_ble_eq_true rfl) (x_Ta_clear (d := d + 8) hs) (Nat.le_refl _) ⟨Nat.le_refl _, Nat.le_refl _⟩ (fun v h' hq => ?_)
      obtain ⟨rfl, he⟩ := hq
      rw [he]
      clear he
      refine kx_iload_n (pc := 34) (kx_dd d_Tc_rules 17 rfl) rfl rfl ?_
      refine kx_iconst (pc := 35) (v := -1) (kx_dd d_Tc_rules 18 rfl) rfl ?_
      refine kx_icmp_eq (pc := 36) (tgt := 58) (kx_dd d_Tc_rules 19 rfl) rfl (fun c36 => ?_) (fun c36 => ?_)
      · refine kx_iload_n (pc := 58) (kx_dd d_Tc_rules 31 rfl) rfl rfl ?_
        refine kx_iret (pc := 59) rfl (kx_dd d_Tc_rules 32 rfl) (Nat.le_refl _) (Nat.le_refl _) ?_
        exact ⟨hs, hFq, setI_at, Or.inr ⟨v9, hv9, rfl, Or.inl ⟨f, hX, rfl, ⟨(setI_ne (Or.inl (by decide))).trans hfa.1, (setI_ne (Or.inl (by decide))).trans hfa.2⟩, hV1.one⟩⟩⟩
      · exact absurd rfl c36
    · skip
      refine kx_istore_ne (pc := 26) (lv' := [_, _, _]) (kx_dd d_Tc_rules 13 rfl) rfl (Nat.le_of_ble_eq_true rfl) rfl ?_
      refine kx_aload_n (pc := 27) (kx_dd d_Tc_rules 14 rfl) rfl rfl ?_
      refine kx_getR (pc := 28) (b := 1) fl_Tc_10 (hs.k 0 rfl) rfl (hs.r 0 rfl) (kx_dd d_Tc_rules 15 rfl) ?_
      refine kx_invV (pc := 31) (a := 1) (as := []) (kx_dd d_Tc_rules 16 rfl) ⟨lk_Tc_132, wi_Ta_clear, we_Ta_clear⟩ w_Ta_clear (hs.k 1 rfl) rfl rfl rfl rfl (Nat.le_of_ble_eq_true rfl) (x_Ta_clear (d := d + 8) hs) (Nat.le_refl _) ⟨Nat.le_refl _, Nat.le_refl _⟩ (fun v h' hq => ?_)
      obtain ⟨rfl, he⟩ := hq
      rw [he]
      clear he
      refine kx_iload_n (pc := 34) (kx_dd d_Tc_rules 17 rfl) rfl rfl ?_
      refine kx_iconst (pc := 35) (v := -1) (kx_dd d_Tc_rules 18 rfl) rfl ?_
      refine kx_icmp_eq (pc := 36) (tgt := 58) (kx_dd d_Tc_rules 19 rfl) rfl (fun c36 => ?_) (fun c36 => ?_)
      · exact absurd c36 (nI_m2 (by have := rdF_cnt _ _ _ _ _ _ hX; have := ht.2.1; omega))
      · refine kx_aload_n (pc := 39) (kx_dd d_Tc_rules 20 rfl) rfl rfl ?_
        refine kx_getR (pc := 40) (b := 13) fl_Tc_27 (hs.k 0 rfl) rfl (hs.r 2 rfl) (kx_dd d_Tc_rules 21 rfl) ?_
        refine kx_iload_n (pc := 43) (kx_dd d_Tc_rules 22 rfl) rfl rfl ?_
        refine kx_aload_n (pc := 44) (kx_dd d_Tc_rules 23 rfl) rfl rfl ?_
        refine kx_getR (pc := 45) (b := 3) fl_Tc_21 (hs.k 0 rfl) rfl (hs.r 1 rfl) (kx_dd d_Tc_rules 24 rfl) ?_
        refine kx_aload_n (pc := 48) (kx_dd d_Tc_rules 25 rfl) rfl rfl ?_
        refine kx_getR (pc := 49) (b := 13) fl_Tc_27 (hs.k 0 rfl) rfl (hs.r 2 rfl) (kx_dd d_Tc_rules 26 rfl) ?_
        refine kx_iload_n (pc := 52) (kx_dd d_Tc_rules 27 rfl) rfl rfl ?_
        refine kx_aldn (pc := 53) (b := (A v9)) v9 (hs.t 13 rfl) (by decide) rfl hv9 (by decide) (hV1.2.2 v9 hv9).1 (kx_dd d_Tc_rules 28 rfl) ?_
        have hex9 := x_Re_exchange (l := l) (g := g) (d := d + 8) (h := (kx_setI h1 1 1 0)) hs D (A v9) hV1.1
        refine kx_invV (pc := 54) (a := 3) (as := [_]) (kx_dd d_Tc_rules 29 rfl) ⟨lk_Tc_138, wi_Re_exchange, we_Re_exchange⟩ w_Re_exchange (hs.k 3 rfl) rfl rfl rfl rfl (Nat.le_of_ble_eq_true rfl) (hex9) (Nat.le_refl _) ⟨Nat.le_refl _, Nat.le_refl _⟩ (fun v h' hq => ?_)
        obtain ⟨rfl, he⟩ := hq
        rw [he]
        clear he
        have hs : SC (kx_setR (kx_setI h1 1 1 0) 3 1 (some (A v9))) := SC_r hs (Or.inl ⟨rfl, rfl⟩)
        refine kx_aast (pc := 57) (ci := 7) (k := 55) (hs.k 13 rfl) (by decide) (congrArg Prod.fst (IsRu.of hs hV1.2.1).1) rfl (Or.inr ⟨rfl, rfl⟩) (by rw [hs.t 13 rfl]; exact vp_in_nI hv9 (by decide)) (kx_dd d_Tc_rules 30 rfl) ?_
        rw [nI_clamp (by omega)]
        refine kx_iload_n (pc := 58) (kx_dd d_Tc_rules 31 rfl) rfl rfl ?_
        refine kx_iret (pc := 59) rfl (kx_dd d_Tc_rules 32 rfl) (Nat.le_refl _) (Nat.le_refl _) ?_
        have y1 : (kx_setI h1 1 1 0).1 1 1 = 0 := setI_at
        have y2 : (kx_setI h1 1 1 0).1 3 3 = 0 := (setI_ne (Or.inl (by decide))).trans g1
        have y3 : (kx_setI h1 1 1 0).1 3 4 = -1 := (setI_ne (Or.inl (by decide))).trans g2
        refine ⟨SC_r hs (Or.inr rfl), ⟨hFq.1, hFq.2.1, fun a j ha => ?_, hFq.2.2.2⟩, y1, Or.inr ⟨v9, hv9, rfl, Or.inr ⟨x, hX, rfl, y2, y3, hV1.one.swap hv9 ho9 (hp9.fg (kx_Fg.setI (P := fun a j => a = 1 ∧ j = 1) (L := fun _ _ => False) ⟨rfl, rfl⟩) (fun x j q1 q2 => ⟨by have := hV1.2.1.g; omega, id⟩))⟩⟩⟩
        rw [setR_ne' (by omega), setR_ne' (by omega)]
        exact hFq.2.2.1 a j ha
  · refine kx_aload_n (pc := 9) (kx_dd d_Tc_rules 5 rfl) rfl rfl ?_
    refine kx_getR (pc := 10) (b := 1) fl_Tc_10 (hs.k 0 rfl) rfl (hs.r 0 rfl) (kx_dd d_Tc_rules 6 rfl) ?_
    refine kx_invV (pc := 13) (a := 1) (as := []) (kx_dd d_Tc_rules 7 rfl) ⟨lk_Tc_132, wi_Ta_clear, we_Ta_clear⟩ w_Ta_clear (hs.k 1 rfl) rfl rfl rfl rfl (Nat.le_of_ble_eq_true rfl) (x_Ta_clear (d := d + 8) hs) (Nat.le_refl _) ⟨Nat.le_refl _, Nat.le_refl _⟩ (fun v h' hq => ?_)
    obtain ⟨rfl, he⟩ := hq
    rw [he]
    clear he
    refine kx_bipush (pc := 16) (v := -2) (kx_dd d_Tc_rules 8 rfl) rfl ?_
    refine kx_iret (pc := 18) rfl (kx_dd d_Tc_rules 9 rfl) (Nat.le_refl _) (Nat.le_refl _) ?_
    rw [bP_0] at c6
    exact ⟨hs, ⟨fun a j ha => setI_ne (Or.inl (fun z => ha (Or.inl z))), fun _ _ _ => rfl, fun _ _ _ => rfl, rfl⟩, setI_at, Or.inl ⟨c6, rfl, hV.one, setI_ne (Or.inl (by decide)), setI_ne (Or.inl (by decide))⟩⟩
