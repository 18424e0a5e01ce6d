/-! the class: Rules.reset, moveRole; lists of names -/
def mvO (ro to : Nat) : Nat → (Nat → Nat) → Nat → Nat
  | 0, O => O
  | i + 1, O => if i + 1 ≤ to then O else mvO ro to i (if O (i + 1) = ro then upF (upF O (i + 1) (O i)) i ro else O)
/-- those told first, the others as they were -/
def finO (L : List Nat) (k : Nat) : Nat := (L ++ (List.range 4).filter (fun x => !L.contains x)).getD k 0
theorem mv_0 : ∀ ro, ro < 4 → ∀ k, k < 4 → mvO ro 0 3 (finO []) k = finO [ro] k := by decide
theorem mv_1 : ∀ x, x < 4 → ∀ ro, ro < 4 → ro ≠ x → ∀ k, k < 4 → mvO ro 1 3 (finO [x]) k = finO [x, ro] k := by decide
theorem mv_2b : ((List.range 4).all fun x => (List.range 4).all fun y => (List.range 4).all fun ro => (List.range 4).all fun k => decide (y = x ∨ ro = x ∨ ro = y ∨ mvO ro 2 3 (finO [x, y]) k = finO [x, y, ro] k)) = true := by decide +kernel
theorem mv_2 (x : Nat) (hx : x < 4) (y : Nat) (hy : y < 4) (h1 : y ≠ x) (ro : Nat) (hr : ro < 4) (h2 : ro ≠ x) (h3 : ro ≠ y) (k : Nat) (hk : k < 4) : mvO ro 2 3 (finO [x, y]) k = finO [x, y, ro] k := by
  have := mv_2b
  simp only [List.all_eq_true, List.mem_range, decide_eq_true_eq] at this
  have := this x hx y hy ro hr k hk
  simp only [h1, h2, h3, false_or] at this
  exact this
theorem mv_3b : ((List.range 4).all fun x => (List.range 4).all fun y => (List.range 4).all fun z => (List.range 4).all fun ro => (List.range 4).all fun k => decide (y = x ∨ z = x ∨ z = y ∨ ro = x ∨ ro = y ∨ ro = z ∨ mvO ro 3 3 (finO [x, y, z]) k = finO [x, y, z, ro] k)) = true := by decide +kernel
theorem mv_3 (x : Nat) (hx : x < 4) (y : Nat) (hy : y < 4) (h1 : y ≠ x) (z : Nat) (hz : z < 4) (h4 : z ≠ x) (h5 : z ≠ y) (ro : Nat) (hr : ro < 4) (h2 : ro ≠ x) (h3 : ro ≠ y) (h6 : ro ≠ z) (k : Nat) (hk : k < 4) : mvO ro 3 3 (finO [x, y, z]) k = finO [x, y, z, ro] k := by
  have := mv_3b
  simp only [List.all_eq_true, List.mem_range, decide_eq_true_eq] at this
  have := this x hx y hy z hz ro hr k hk
  simp only [h1, h2, h3, h4, h5, h6, false_or] at this
  exact this
theorem mv_fin {L : List Nat} (hl : ∀ x ∈ L, x < 4) (hd : L.Nodup) (hn : L.length ≤ 3) {ro : Nat} (hr : ro < 4) (hro : ro ∉ L) : ∀ k, k < 4 → mvO ro L.length 3 (finO L) k = finO (L ++ [ro]) k := by
  match L, hl, hd, hn, hro with
  | [], _, _, _, _ => exact mv_0 ro hr
  | [x], hl, _, _, hro => exact mv_1 x (hl x (by simp)) ro hr (by simpa using hro)
  | [x, y], hl, hd, _, hro =>
    simp only [List.nodup_cons, List.mem_cons, List.not_mem_nil, or_false, not_or] at hd hro
    exact mv_2 x (hl x (by simp)) y (hl y (by simp)) (Ne.symm hd.1) ro hr hro.1 hro.2
  | [x, y, z], hl, hd, _, hro =>
    simp only [List.nodup_cons, List.mem_cons, List.not_mem_nil, or_false, not_or] at hd hro
    exact mv_3 x (hl x (by simp)) y (hl y (by simp)) (Ne.symm hd.1.1) z (hl z (by simp)) (Ne.symm hd.1.2) (Ne.symm hd.2.1) ro hr hro.1 hro.2.1 hro.2.2
  | _ :: _ :: _ :: _ :: _, _, _, hn, _ => exact absurd hn (by simp)
theorem finO_lt {L : List Nat} (hl : ∀ x ∈ L, x < 4) : ∀ k, finO L k < 4 := by
  intro k
  unfold finO
  rw [List.getD_eq_getElem?_getD]
  cases h : (L ++ (List.range 4).filter (fun x => !L.contains x))[k]? with
  | none => simp
  | some y =>
    have := List.mem_of_getElem? h
    rcases List.mem_append.mp this with q | q
    · exact hl y q
    · have := List.mem_range.mp (List.mem_filter.mp q).1
      simpa using this
theorem RUc.ord {r : RU} {a : Nat} {h h' : kx_Mem} {O : Nat → Nat} (hp : RUc r a h) (hf : kx_Fc (fun b j => b = a + 2 ∧ j < 4) h h') (hO : ∀ k, k < 4 → h'.1 (a + 2) k = nI (O k)) : RUc (ruOrd r O) a h' := by
  obtain ⟨h1, h2, h3, h4, h5, h6, h7, h8, h9⟩ := hp
  have e : ∀ b k, b ≠ a + 2 → h'.1 b k = h.1 b k := fun b k hb => hf.2 b k (fun z => hb z.1)
  have eL : h'.2.1 = h.2.1 := by rw [hf.1]
  refine ⟨fun k hk => by rw [e _ _ (by omega)]; exact h1 k hk, hO, by rw [e _ _ (by omega)]; exact h3, fun k hk => ⟨by rw [eL]; exact (h4 k hk).1, by rw [e _ _ (by omega)]; exact (h4 k hk).2⟩, by rw [e _ _ (by omega)]; exact h5, fun k hk => ⟨by rw [eL]; exact (h6 k hk).1, by rw [e _ _ (by omega)]; exact (h6 k hk).2⟩, by rw [e _ _ (by omega)]; exact h7, by rw [e _ _ (by omega)]; exact h8, fun i y hy => ⟨by rw [eL]; exact (h9 i y hy).1, by rw [e _ _ (by omega)]; exact (h9 i y hy).2⟩⟩
theorem x_Ru_mv {l : Launch} {g : kx_G} {d : Nat} {h0 : kx_Mem} (a : Nat) (hr0 : IsRu h0 a) (ro to : Nat) (hro : ro < 4) (hto : to < 4) (R : Nat → Nat) : ∀ i, i ≤ 3 → ∀ h O, kx_Fc (fun b j => b = a + 2 ∧ j < 4) h0 h → (∀ k, k < 4 → h.1 (a + 2) k = nI (O k)) → (∀ k, k < 4 → O k < 4) → mvO ro to i O = R → kx_X (l, g, m_Ru_moveRole, d, 0, 0, (fun v h' => v = none ∧ (∀ k, k < 4 → h'.1 (a + 2) k = nI (R k)) ∧ kx_Fc (fun b j => b = a + 2 ∧ j < 4) h0 h')) 0 0 2 [some (.ref a), some (.int (nI ro)), some (.int (nI to)), some (.int (nI i))] [] h := by
  have oa := hr0.2.2.2.2.2.2.2.2.2.2.2.2.2.2.2.2.2
  intro i
  induction i with
  | zero =>
    intro hi h O hf hO hO4 he
    have hr : IsRu h a := by
      unfold IsRu
      rw [hf.1]
      exact hr0
    refine kx_iload_n (pc := 2) (kx_dd d_Ru_moveRole 2 rfl) rfl rfl ?_
    refine kx_iload_n (pc := 3) (kx_dd d_Ru_moveRole 3 rfl) rfl rfl ?_
    refine kx_icmp_le (pc := 4) (tgt := 50) (kx_dd d_Ru_moveRole 4 rfl) rfl (fun c4 => ?_) (fun c4 => ?_)
    · refine kx_vret (pc := 50) rfl (kx_dd d_Ru_moveRole 32 rfl) (Nat.le_refl _) (Nat.le_refl _) ?_
      exact ⟨rfl, fun k hk => by rw [← he]; exact hO k hk, hf⟩
    · refine kx_iload_n (pc := 7) (kx_dd d_Ru_moveRole 5 rfl) rfl rfl ?_
      refine kx_if_le (pc := 8) (tgt := 50) (kx_dd d_Ru_moveRole 6 rfl) rfl (fun c8 => ?_) (fun c8 => ?_)
      · refine kx_vret (pc := 50) rfl (kx_dd d_Ru_moveRole 32 rfl) (Nat.le_refl _) (Nat.le_refl _) ?_
        exact ⟨rfl, fun k hk => by rw [← he]; exact hO k hk, hf⟩
      · exact absurd (by decide) c8
  | succ i ih =>
    intro hi h O hf hO hO4 he
    have hr : IsRu h a := by
      unfold IsRu
      rw [hf.1]
      exact hr0
    have o1 := hO (i + 1) (by omega)
    have o2 := hO4 (i + 1) (by omega)
    have o3 := hO i (by omega)
    have ei : nI (i + 1) - 1 = nI i := by rw [nI_m1' (by omega)]; rfl
    refine kx_iload_n (pc := 2) (kx_dd d_Ru_moveRole 2 rfl) rfl rfl ?_
    refine kx_iload_n (pc := 3) (kx_dd d_Ru_moveRole 3 rfl) rfl rfl ?_
    refine kx_icmp_le (pc := 4) (tgt := 50) (kx_dd d_Ru_moveRole 4 rfl) rfl (fun c4 => ?_) (fun c4 => ?_)
    · refine kx_vret (pc := 50) rfl (kx_dd d_Ru_moveRole 32 rfl) (Nat.le_refl _) (Nat.le_refl _) ?_
      rw [nI_leI (by omega) (by omega)] at c4
      have e9 : mvO ro to (i + 1) O = O := if_pos c4
      rw [e9] at he
      exact ⟨rfl, fun k hk => by rw [← he]; exact hO k hk, hf⟩
    · refine kx_iload_n (pc := 7) (kx_dd d_Ru_moveRole 5 rfl) rfl rfl ?_
      refine kx_if_le (pc := 8) (tgt := 50) (kx_dd d_Ru_moveRole 6 rfl) rfl (fun c8 => ?_) (fun c8 => ?_)
      · exact absurd c8 (nI_nle (by omega) (by omega))
      · refine kx_aload_n (pc := 11) (kx_dd d_Ru_moveRole 7 rfl) rfl rfl ?_
        refine kx_getR (pc := 12) (b := (a + 2)) fl_Ru_15 (congrArg Prod.fst hr.1) rfl (hr.2.2.2.2.2.2.2.2.2.2.1) (kx_dd d_Ru_moveRole 8 rfl) ?_
        refine kx_iload_n (pc := 15) (kx_dd d_Ru_moveRole 9 rfl) rfl rfl ?_
        refine kx_ialdn (pc := 16) (i + 1) (hr.2.2.1) rfl (by omega) (by decide) (kx_dd d_Ru_moveRole 10 rfl) ?_
        refine kx_iload_n (pc := 17) (kx_dd d_Ru_moveRole 11 rfl) rfl rfl ?_
        refine kx_icmp_ne (pc := 18) (tgt := 44) (kx_dd d_Ru_moveRole 12 rfl) rfl (fun c18 => ?_) (fun c18 => ?_)
        · refine kx_iinc_e (pc := 44) (v := nI i) (lv' := [_, _, _, _]) (kx_dd d_Ru_moveRole 30 rfl) rfl (Nat.le_of_ble_eq_true rfl) (nI_dn i) rfl ?_
          refine kx_goto (pc := 47) (tgt := 2) (kx_dd d_Ru_moveRole 31 rfl) rfl ?_
          rw [nI_leI (by omega) (by omega)] at c4
          have e9 : mvO ro to (i + 1) O = mvO ro to i (if O (i + 1) = ro then upF (upF O (i + 1) (O i)) i ro else O) := if_neg c4
          rw [o1, nI_eq (by omega) (by omega)] at c18
          rw [e9, if_neg c18] at he
          exact ih (by omega) h O hf hO hO4 he
        · refine kx_aload_n (pc := 21) (kx_dd d_Ru_moveRole 13 rfl) rfl rfl ?_
          refine kx_getR (pc := 22) (b := (a + 2)) fl_Ru_15 (congrArg Prod.fst hr.1) rfl (hr.2.2.2.2.2.2.2.2.2.2.1) (kx_dd d_Ru_moveRole 14 rfl) ?_
          refine kx_iload_n (pc := 25) (kx_dd d_Ru_moveRole 15 rfl) rfl rfl ?_
          refine kx_aload_n (pc := 26) (kx_dd d_Ru_moveRole 16 rfl) rfl rfl ?_
          refine kx_getR (pc := 27) (b := (a + 2)) fl_Ru_15 (congrArg Prod.fst hr.1) rfl (hr.2.2.2.2.2.2.2.2.2.2.1) (kx_dd d_Ru_moveRole 17 rfl) ?_
          refine kx_iload_n (pc := 30) (kx_dd d_Ru_moveRole 18 rfl) rfl rfl ?_
          refine kx_iconst (pc := 31) (v := 1) (kx_dd d_Ru_moveRole 19 rfl) rfl ?_
          refine kx_isub (pc := 32) (kx_dd d_Ru_moveRole 20 rfl) ?_
          refine kx_ialdn (pc := 33) i (hr.2.2.1) ei (by omega) (by decide) (kx_dd d_Ru_moveRole 21 rfl) ?_
          refine kx_iastn (pc := 34) (i + 1) (hr.2.2.1) (by omega) rfl (by omega) (by decide) (kx_dd d_Ru_moveRole 22 rfl) ?_
          refine kx_aload_n (pc := 35) (kx_dd d_Ru_moveRole 23 rfl) rfl rfl ?_
          refine kx_getR (pc := 36) (b := (a + 2)) fl_Ru_15 (congrArg Prod.fst hr.1) rfl (hr.2.2.2.2.2.2.2.2.2.2.1) (kx_dd d_Ru_moveRole 24 rfl) ?_
          refine kx_iload_n (pc := 39) (kx_dd d_Ru_moveRole 25 rfl) rfl rfl ?_
          refine kx_iconst (pc := 40) (v := 1) (kx_dd d_Ru_moveRole 26 rfl) rfl ?_
          refine kx_isub (pc := 41) (kx_dd d_Ru_moveRole 27 rfl) ?_
          refine kx_iload_n (pc := 42) (kx_dd d_Ru_moveRole 28 rfl) rfl rfl ?_
          refine kx_iastn (pc := 43) i (hr.2.2.1) (by omega) ei (by omega) (by decide) (kx_dd d_Ru_moveRole 29 rfl) ?_
          refine kx_iinc_e (pc := 44) (v := nI i) (lv' := [_, _, _, _]) (kx_dd d_Ru_moveRole 30 rfl) rfl (Nat.le_of_ble_eq_true rfl) (nI_dn i) rfl ?_
          refine kx_goto (pc := 47) (tgt := 2) (kx_dd d_Ru_moveRole 31 rfl) rfl ?_
          rw [nI_leI (by omega) (by omega)] at c4
          have e9 : mvO ro to (i + 1) O = mvO ro to i (if O (i + 1) = ro then upF (upF O (i + 1) (O i)) i ro else O) := if_neg c4
          rw [o1, nI_eq (by omega) (by omega)] at c18
          rw [e9, if_pos c18] at he
          rw [o3]
          refine ih (by omega) _ _ ((hf.tr (kx_Fc.set ⟨rfl, by omega⟩)).tr (kx_Fc.set ⟨rfl, by omega⟩)) (fun k hk => ?_) (fun k hk => ?_) he
          · unfold upF
            by_cases e1 : k = i
            · rw [if_pos e1, e1]; exact setI_at
            · rw [if_neg e1, setI_ne (Or.inr e1)]
              by_cases e2 : k = i + 1
              · rw [if_pos e2, e2]; exact setI_at
              · rw [if_neg e2, setI_ne (Or.inr e2)]; exact hO k hk
          · unfold upF
            split
            · exact hro
            · split
              · exact hO4 i (by omega)
              · exact hO4 k hk
theorem x_Ru_moveRole {l : Launch} {g : kx_G} {d : Nat} {h : kx_Mem} (a : Nat) (hr : IsRu h a) (O : Nat → Nat) (hO : ∀ k, k < 4 → h.1 (a + 2) k = nI (O k)) (hO4 : ∀ k, k < 4 → O k < 4) (ro to : Nat) (hro : ro < 4) (hto : to < 4) : kx_Sp l g m_Ru_moveRole [.ref a, .int (nI ro), .int (nI to)] h (d) 0 0 (fun v h' => v = none ∧ (∀ k, k < 4 → h'.1 (a + 2) k = nI (mvO ro to 3 O k)) ∧ kx_Fc (fun b j => b = a + 2 ∧ j < 4) h h') := by
  refine kx_enter_e (lv := [_, _, _, _]) (by decide +kernel) (Nat.le_of_ble_eq_true rfl) rfl ?_
  refine kx_iconst (pc := 0) (v := 3) (kx_dd d_Ru_moveRole 0 rfl) rfl ?_
  refine kx_istore_ne (pc := 1) (lv' := [_, _, _, _]) (kx_dd d_Ru_moveRole 1 rfl) rfl (Nat.le_of_ble_eq_true rfl) rfl ?_
  exact x_Ru_mv a hr ro to hro hto _ 3 (by omega) h O kx_Fc.rf hO hO4 rfl
theorem x_Ru_res {l : Launch} {g : kx_G} {d : Nat} {h0 : kx_Mem} (a : Nat) (hr0 : IsRu h0 a) : ∀ f k, k + f = 4 → ∀ h, kx_Fc (fun b j => a ≤ b ∧ b ≤ a + 8) h0 h → (∀ j, j < 11 → h.1 (a + 1) j = r0S j) → (∀ j, j < k → h.1 (a + 2) j = nI j) → kx_X (l, g, m_Ru_reset, d, 0, 0, (fun v h' => v = none ∧ RUc ru0 a h' ∧ kx_Fc (fun b j => a ≤ b ∧ b ≤ a + 8) h0 h')) 0 0 89 [some (.ref a), some (.int (nI k))] [] h := by
  have oa := hr0.2.2.2.2.2.2.2.2.2.2.2.2.2.2.2.2.2
  intro f
  induction f with
  | zero =>
    intro k hk h hf hS hO
    have hk4 : k = 4 := by omega
    subst hk4
    have hr : IsRu h a := by
      unfold IsRu
      rw [hf.1]
      exact hr0
    refine kx_iload_n (pc := 89) (kx_dd d_Ru_reset 57 rfl) rfl rfl ?_
    refine kx_iconst (pc := 90) (v := 4) (kx_dd d_Ru_reset 58 rfl) rfl ?_
    refine kx_icmp_ge (pc := 91) (tgt := 107) (kx_dd d_Ru_reset 59 rfl) rfl (fun c91 => ?_) (fun c91 => ?_)
    · refine kx_aload_n (pc := 107) (kx_dd d_Ru_reset 67 rfl) rfl rfl ?_
      refine kx_iconst (pc := 108) (v := 0) (kx_dd d_Ru_reset 68 rfl) rfl ?_
      refine kx_putI (pc := 109) fl_Ru_40 (congrArg Prod.fst hr.1) (by omega) rfl rfl (kx_dd d_Ru_reset 69 rfl) ?_
      refine kx_aload_n (pc := 112) (kx_dd d_Ru_reset 70 rfl) rfl rfl ?_
      refine kx_iconst (pc := 113) (v := 0) (kx_dd d_Ru_reset 71 rfl) rfl ?_
      refine kx_putI (pc := 114) fl_Ru_44 (congrArg Prod.fst hr.1) (by omega) rfl rfl (kx_dd d_Ru_reset 72 rfl) ?_
      refine kx_aload_n (pc := 117) (kx_dd d_Ru_reset 73 rfl) rfl rfl ?_
      refine kx_iconst (pc := 118) (v := 0) (kx_dd d_Ru_reset 74 rfl) rfl ?_
      refine kx_putI (pc := 119) fl_Ru_47 (congrArg Prod.fst hr.1) (by omega) rfl rfl (kx_dd d_Ru_reset 75 rfl) ?_
      refine kx_aload_n (pc := 122) (kx_dd d_Ru_reset 76 rfl) rfl rfl ?_
      refine kx_iconst (pc := 123) (v := 0) (kx_dd d_Ru_reset 77 rfl) rfl ?_
      refine kx_putI (pc := 124) fl_Ru_50 (congrArg Prod.fst hr.1) (by omega) rfl rfl (kx_dd d_Ru_reset 78 rfl) ?_
      refine kx_vret (pc := 127) rfl (kx_dd d_Ru_reset 79 rfl) (Nat.le_refl _) (Nat.le_refl _) ?_
      have e : ∀ b j, b ≠ a → (kx_setI (kx_setI (kx_setI (kx_setI h a 2 0) a 5 0) a 8 0) a 9 0).1 b j = h.1 b j := fun b j hb => by rw [setI_ne (Or.inl hb), setI_ne (Or.inl hb), setI_ne (Or.inl hb), setI_ne (Or.inl hb)]
      refine ⟨rfl, ⟨fun k hk => by rw [e _ _ (by omega)]; exact hS k hk, fun k hk => by rw [e _ _ (by omega)]; exact hO k hk, ?_, fun k hk => absurd hk (Nat.not_lt_zero k), ?_, fun k hk => absurd hk (Nat.not_lt_zero k), ?_, setI_at, fun i x hx => by cases hx⟩, (((hf.tr (kx_Fc.set ⟨by omega, by omega⟩)).tr (kx_Fc.set ⟨by omega, by omega⟩)).tr (kx_Fc.set ⟨by omega, by omega⟩)).tr (kx_Fc.set ⟨by omega, by omega⟩)⟩
      · rw [setI_ne (Or.inr (by decide)), setI_ne (Or.inr (by decide)), setI_ne (Or.inr (by decide))]; exact setI_at
      · rw [setI_ne (Or.inr (by decide)), setI_ne (Or.inr (by decide))]; exact setI_at
      · rw [setI_ne (Or.inr (by decide))]; exact setI_at
    · exact absurd (by decide) c91
  | succ f ih =>
    intro k hk h hf hS hO
    have hr : IsRu h a := by
      unfold IsRu
      rw [hf.1]
      exact hr0
    refine kx_iload_n (pc := 89) (kx_dd d_Ru_reset 57 rfl) rfl rfl ?_
    refine kx_iconst (pc := 90) (v := 4) (kx_dd d_Ru_reset 58 rfl) rfl ?_
    refine kx_icmp_ge (pc := 91) (tgt := 107) (kx_dd d_Ru_reset 59 rfl) rfl (fun c91 => ?_) (fun c91 => ?_)
    · exact absurd c91 (nI_ge (b := 4) (by omega) (by decide))
    · refine kx_aload_n (pc := 94) (kx_dd d_Ru_reset 60 rfl) rfl rfl ?_
      refine kx_getR (pc := 95) (b := (a + 2)) fl_Ru_15 (congrArg Prod.fst hr.1) rfl (hr.2.2.2.2.2.2.2.2.2.2.1) (kx_dd d_Ru_reset 61 rfl) ?_
      refine kx_iload_n (pc := 98) (kx_dd d_Ru_reset 62 rfl) rfl rfl ?_
      refine kx_iload_n (pc := 99) (kx_dd d_Ru_reset 63 rfl) rfl rfl ?_
      refine kx_iastn (pc := 100) k (hr.2.2.1) (by omega) rfl (by omega) (by decide) (kx_dd d_Ru_reset 64 rfl) ?_
      refine kx_iinc_e (pc := 101) (v := nI (k + 1)) (lv' := [_, _]) (kx_dd d_Ru_reset 65 rfl) rfl (Nat.le_of_ble_eq_true rfl) (nI_1 k) rfl ?_
      refine kx_goto (pc := 104) (tgt := 89) (kx_dd d_Ru_reset 66 rfl) rfl ?_
      refine ih (k + 1) (by omega) _ (hf.tr (kx_Fc.set ⟨by omega, by omega⟩)) (fun j hj => by rw [setI_ne (Or.inl (by omega))]; exact hS j hj) (fun j hj => ?_)
      by_cases e : j = k
      · rw [e]; exact setI_at
      · rw [setI_ne (Or.inr e)]; exact hO j (by omega)
theorem x_Ru_reset {l : Launch} {g : kx_G} {d : Nat} {h : kx_Mem} (a : Nat) (hr : IsRu h a) : kx_Sp l g m_Ru_reset [.ref a] h (d) 0 0 (fun v h' => v = none ∧ RUc ru0 a h' ∧ kx_Fc (fun b j => a ≤ b ∧ b ≤ a + 8) h h') := by
  have oa := hr.2.2.2.2.2.2.2.2.2.2.2.2.2.2.2.2.2
  refine kx_enter_e (lv := [_, _]) (by decide +kernel) (Nat.le_of_ble_eq_true rfl) rfl ?_
  refine kx_aload_n (pc := 0) (kx_dd d_Ru_reset 0 rfl) rfl rfl ?_
  refine kx_getR (pc := 1) (b := (a + 1)) fl_Ru_11 (congrArg Prod.fst hr.1) rfl (hr.2.2.2.2.2.2.2.2.2.1) (kx_dd d_Ru_reset 1 rfl) ?_
  refine kx_iconst (pc := 4) (v := 0) (kx_dd d_Ru_reset 2 rfl) rfl ?_
  refine kx_sipush (pc := 5) (v := 1999) (kx_dd d_Ru_reset 3 rfl) rfl ?_
  refine kx_iastn (pc := 8) 0 (hr.2.1) (by omega) rfl (by decide) (by decide) (kx_dd d_Ru_reset 4 rfl) ?_
  refine kx_aload_n (pc := 9) (kx_dd d_Ru_reset 5 rfl) rfl rfl ?_
  refine kx_getR (pc := 10) (b := (a + 1)) fl_Ru_11 (congrArg Prod.fst hr.1) rfl (hr.2.2.2.2.2.2.2.2.2.1) (kx_dd d_Ru_reset 6 rfl) ?_
  refine kx_iconst (pc := 13) (v := 1) (kx_dd d_Ru_reset 7 rfl) rfl ?_
  refine kx_iconst (pc := 14) (v := 0) (kx_dd d_Ru_reset 8 rfl) rfl ?_
  refine kx_iastn (pc := 15) 1 (hr.2.1) (by omega) rfl (by decide) (by decide) (kx_dd d_Ru_reset 9 rfl) ?_
  refine kx_aload_n (pc := 16) (kx_dd d_Ru_reset 10 rfl) rfl rfl ?_
  refine kx_getR (pc := 17) (b := (a + 1)) fl_Ru_11 (congrArg Prod.fst hr.1) rfl (hr.2.2.2.2.2.2.2.2.2.1) (kx_dd d_Ru_reset 11 rfl) ?_
  refine kx_iconst (pc := 20) (v := 2) (kx_dd d_Ru_reset 12 rfl) rfl ?_
  refine kx_sipush (pc := 21) (v := 1999) (kx_dd d_Ru_reset 13 rfl) rfl ?_
  refine kx_iastn (pc := 24) 2 (hr.2.1) (by omega) rfl (by decide) (by decide) (kx_dd d_Ru_reset 14 rfl) ?_
  refine kx_aload_n (pc := 25) (kx_dd d_Ru_reset 15 rfl) rfl rfl ?_
  refine kx_getR (pc := 26) (b := (a + 1)) fl_Ru_11 (congrArg Prod.fst hr.1) rfl (hr.2.2.2.2.2.2.2.2.2.1) (kx_dd d_Ru_reset 16 rfl) ?_
  refine kx_iconst (pc := 29) (v := 3) (kx_dd d_Ru_reset 17 rfl) rfl ?_
  refine kx_iconst (pc := 30) (v := 2) (kx_dd d_Ru_reset 18 rfl) rfl ?_
  refine kx_iastn (pc := 31) 3 (hr.2.1) (by omega) rfl (by decide) (by decide) (kx_dd d_Ru_reset 19 rfl) ?_
  refine kx_aload_n (pc := 32) (kx_dd d_Ru_reset 20 rfl) rfl rfl ?_
  refine kx_getR (pc := 33) (b := (a + 1)) fl_Ru_11 (congrArg Prod.fst hr.1) rfl (hr.2.2.2.2.2.2.2.2.2.1) (kx_dd d_Ru_reset 21 rfl) ?_
  refine kx_iconst (pc := 36) (v := 4) (kx_dd d_Ru_reset 22 rfl) rfl ?_
  refine kx_iconst (pc := 37) (v := 0) (kx_dd d_Ru_reset 23 rfl) rfl ?_
  refine kx_iastn (pc := 38) 4 (hr.2.1) (by omega) rfl (by decide) (by decide) (kx_dd d_Ru_reset 24 rfl) ?_
  refine kx_aload_n (pc := 39) (kx_dd d_Ru_reset 25 rfl) rfl rfl ?_
  refine kx_getR (pc := 40) (b := (a + 1)) fl_Ru_11 (congrArg Prod.fst hr.1) rfl (hr.2.2.2.2.2.2.2.2.2.1) (kx_dd d_Ru_reset 26 rfl) ?_
  refine kx_iconst (pc := 43) (v := 5) (kx_dd d_Ru_reset 27 rfl) rfl ?_
  refine kx_iconst (pc := 44) (v := 0) (kx_dd d_Ru_reset 28 rfl) rfl ?_
  refine kx_iastn (pc := 45) 5 (hr.2.1) (by omega) rfl (by decide) (by decide) (kx_dd d_Ru_reset 29 rfl) ?_
  refine kx_aload_n (pc := 46) (kx_dd d_Ru_reset 30 rfl) rfl rfl ?_
  refine kx_getR (pc := 47) (b := (a + 1)) fl_Ru_11 (congrArg Prod.fst hr.1) rfl (hr.2.2.2.2.2.2.2.2.2.1) (kx_dd d_Ru_reset 31 rfl) ?_
  refine kx_bipush (pc := 50) (v := 6) (kx_dd d_Ru_reset 32 rfl) rfl ?_
  refine kx_iconst (pc := 52) (v := 1) (kx_dd d_Ru_reset 33 rfl) rfl ?_
  refine kx_iastn (pc := 53) 6 (hr.2.1) (by omega) rfl (by decide) (by decide) (kx_dd d_Ru_reset 34 rfl) ?_
  refine kx_aload_n (pc := 54) (kx_dd d_Ru_reset 35 rfl) rfl rfl ?_
  refine kx_getR (pc := 55) (b := (a + 1)) fl_Ru_11 (congrArg Prod.fst hr.1) rfl (hr.2.2.2.2.2.2.2.2.2.1) (kx_dd d_Ru_reset 36 rfl) ?_
  refine kx_bipush (pc := 58) (v := 7) (kx_dd d_Ru_reset 37 rfl) rfl ?_
  refine kx_iconst (pc := 60) (v := -1) (kx_dd d_Ru_reset 38 rfl) rfl ?_
  refine kx_iastn (pc := 61) 7 (hr.2.1) (by omega) rfl (by decide) (by decide) (kx_dd d_Ru_reset 39 rfl) ?_
  refine kx_aload_n (pc := 62) (kx_dd d_Ru_reset 40 rfl) rfl rfl ?_
  refine kx_getR (pc := 63) (b := (a + 1)) fl_Ru_11 (congrArg Prod.fst hr.1) rfl (hr.2.2.2.2.2.2.2.2.2.1) (kx_dd d_Ru_reset 41 rfl) ?_
  refine kx_bipush (pc := 66) (v := 8) (kx_dd d_Ru_reset 42 rfl) rfl ?_
  refine kx_iconst (pc := 68) (v := 0) (kx_dd d_Ru_reset 43 rfl) rfl ?_
  refine kx_iastn (pc := 69) 8 (hr.2.1) (by omega) rfl (by decide) (by decide) (kx_dd d_Ru_reset 44 rfl) ?_
  refine kx_aload_n (pc := 70) (kx_dd d_Ru_reset 45 rfl) rfl rfl ?_
  refine kx_getR (pc := 71) (b := (a + 1)) fl_Ru_11 (congrArg Prod.fst hr.1) rfl (hr.2.2.2.2.2.2.2.2.2.1) (kx_dd d_Ru_reset 46 rfl) ?_
  refine kx_bipush (pc := 74) (v := 9) (kx_dd d_Ru_reset 47 rfl) rfl ?_
  refine kx_iconst (pc := 76) (v := 0) (kx_dd d_Ru_reset 48 rfl) rfl ?_
  refine kx_iastn (pc := 77) 9 (hr.2.1) (by omega) rfl (by decide) (by decide) (kx_dd d_Ru_reset 49 rfl) ?_
  refine kx_aload_n (pc := 78) (kx_dd d_Ru_reset 50 rfl) rfl rfl ?_
  refine kx_getR (pc := 79) (b := (a + 1)) fl_Ru_11 (congrArg Prod.fst hr.1) rfl (hr.2.2.2.2.2.2.2.2.2.1) (kx_dd d_Ru_reset 51 rfl) ?_
  refine kx_bipush (pc := 82) (v := 10) (kx_dd d_Ru_reset 52 rfl) rfl ?_
  refine kx_bipush (pc := 84) (v := 100) (kx_dd d_Ru_reset 53 rfl) rfl ?_
  refine kx_iastn (pc := 86) 10 (hr.2.1) (by omega) rfl (by decide) (by decide) (kx_dd d_Ru_reset 54 rfl) ?_
  refine kx_iconst (pc := 87) (v := 0) (kx_dd d_Ru_reset 55 rfl) rfl ?_
  refine kx_istore_ne (pc := 88) (lv' := [_, _]) (kx_dd d_Ru_reset 56 rfl) rfl (Nat.le_of_ble_eq_true rfl) rfl ?_
  have hS9 : ∀ j, j < 11 → ((kx_setI (kx_setI (kx_setI (kx_setI (kx_setI (kx_setI (kx_setI (kx_setI (kx_setI (kx_setI (kx_setI h (a + 1) 0 1999) (a + 1) 1 0) (a + 1) 2 1999) (a + 1) 3 2) (a + 1) 4 0) (a + 1) 5 0) (a + 1) 6 1) (a + 1) 7 (-1)) (a + 1) 8 0) (a + 1) 9 0) (a + 1) 10 100)).1 (a + 1) j = r0S j := by
    intro j hj
    match j, hj with
    | 0, _ => rw [setI_ne (Or.inr (by decide)), setI_ne (Or.inr (by decide)), setI_ne (Or.inr (by decide)), setI_ne (Or.inr (by decide)), setI_ne (Or.inr (by decide)), setI_ne (Or.inr (by decide)), setI_ne (Or.inr (by decide)), setI_ne (Or.inr (by decide)), setI_ne (Or.inr (by decide)), setI_ne (Or.inr (by decide)), setI_at]; rfl
    | 1, _ => rw [setI_ne (Or.inr (by decide)), setI_ne (Or.inr (by decide)), setI_ne (Or.inr (by decide)), setI_ne (Or.inr (by decide)), setI_ne (Or.inr (by decide)), setI_ne (Or.inr (by decide)), setI_ne (Or.inr (by decide)), setI_ne (Or.inr (by decide)), setI_ne (Or.inr (by decide)), setI_at]; rfl
    | 2, _ => rw [setI_ne (Or.inr (by decide)), setI_ne (Or.inr (by decide)), setI_ne (Or.inr (by decide)), setI_ne (Or.inr (by decide)), setI_ne (Or.inr (by decide)), setI_ne (Or.inr (by decide)), setI_ne (Or.inr (by decide)), setI_ne (Or.inr (by decide)), setI_at]; rfl
    | 3, _ => rw [setI_ne (Or.inr (by decide)), setI_ne (Or.inr (by decide)), setI_ne (Or.inr (by decide)), setI_ne (Or.inr (by decide)), setI_ne (Or.inr (by decide)), setI_ne (Or.inr (by decide)), setI_ne (Or.inr (by decide)), setI_at]; rfl
    | 4, _ => rw [setI_ne (Or.inr (by decide)), setI_ne (Or.inr (by decide)), setI_ne (Or.inr (by decide)), setI_ne (Or.inr (by decide)), setI_ne (Or.inr (by decide)), setI_ne (Or.inr (by decide)), setI_at]; rfl
    | 5, _ => rw [setI_ne (Or.inr (by decide)), setI_ne (Or.inr (by decide)), setI_ne (Or.inr (by decide)), setI_ne (Or.inr (by decide)), setI_ne (Or.inr (by decide)), setI_at]; rfl
    | 6, _ => rw [setI_ne (Or.inr (by decide)), setI_ne (Or.inr (by decide)), setI_ne (Or.inr (by decide)), setI_ne (Or.inr (by decide)), setI_at]; rfl
    | 7, _ => rw [setI_ne (Or.inr (by decide)), setI_ne (Or.inr (by decide)), setI_ne (Or.inr (by decide)), setI_at]; rfl
    | 8, _ => rw [setI_ne (Or.inr (by decide)), setI_ne (Or.inr (by decide)), setI_at]; rfl
    | 9, _ => rw [setI_ne (Or.inr (by decide)), setI_at]; rfl
    | 10, _ => rw [setI_at]; rfl
    | n + 11, hj => omega
  exact x_Ru_res a hr 4 0 (by omega) _ (((((((((((kx_Fc.set (P := (fun b j => a ≤ b ∧ b ≤ a + 8)) ⟨by omega, by omega⟩).tr (kx_Fc.set (P := (fun b j => a ≤ b ∧ b ≤ a + 8)) ⟨by omega, by omega⟩)).tr (kx_Fc.set (P := (fun b j => a ≤ b ∧ b ≤ a + 8)) ⟨by omega, by omega⟩)).tr (kx_Fc.set (P := (fun b j => a ≤ b ∧ b ≤ a + 8)) ⟨by omega, by omega⟩)).tr (kx_Fc.set (P := (fun b j => a ≤ b ∧ b ≤ a + 8)) ⟨by omega, by omega⟩)).tr (kx_Fc.set (P := (fun b j => a ≤ b ∧ b ≤ a + 8)) ⟨by omega, by omega⟩)).tr (kx_Fc.set (P := (fun b j => a ≤ b ∧ b ≤ a + 8)) ⟨by omega, by omega⟩)).tr (kx_Fc.set (P := (fun b j => a ≤ b ∧ b ≤ a + 8)) ⟨by omega, by omega⟩)).tr (kx_Fc.set (P := (fun b j => a ≤ b ∧ b ≤ a + 8)) ⟨by omega, by omega⟩)).tr (kx_Fc.set (P := (fun b j => a ≤ b ∧ b ≤ a + 8)) ⟨by omega, by omega⟩)).tr (kx_Fc.set (P := (fun b j => a ≤ b ∧ b ≤ a + 8)) ⟨by omega, by omega⟩)) hS9 (fun j hj => absurd hj (Nat.not_lt_zero j))
def ixO : List Nat → Nat → Nat → Option Nat
  | [], _, _ => none
  | c :: cs, w, k => if c = w then some k else ixO cs w (k + 1)
def chn : List Nat → Nat → Nat → Int32
  | [], _, _ => -1
  | c :: cs, w, k => if c = w then nI k else chn cs w (k + 1)
theorem chn_ix : ∀ (cs : List Nat) (w k : Nat), chn cs w k = oI (ixO cs w k)
  | [], _, _ => rfl
  | c :: cs, w, k => by
    unfold chn ixO
    split
    · rfl
    · exact chn_ix cs w (k + 1)
theorem ixO_lt {w : Nat} : ∀ (cs : List Nat) (k q : Nat), ixO cs w k = some q → k ≤ q ∧ q < k + cs.length
  | [], k, q, h => by cases h
  | c :: cs, k, q, h => by
    unfold ixO at h
    split at h
    · cases h; simp
    · have := ixO_lt cs (k + 1) q h
      simp only [List.length_cons]
      omega
def nm0 : List Nat := [2098, 132915, 3409198, 591493, 20459828, 3120, 661108, 394885, 525908, 16322738, 24290536, 464036, 448116, 177873074]
set_option maxRecDepth 100000 in
theorem am_0 (w : Nat) (hw : w < 2 ^ 60) : amK (fun j => ([98, 97, 114, 32, 100, 97, 121, 115, 32, 99, 104, 97, 105, 110, 32, 114, 97, 116, 101, 32, 115, 112, 108, 105, 116, 32, 99, 97, 112, 32, 116, 101, 115, 116, 32, 108, 97, 116, 101, 32, 112, 97, 114, 116, 32, 111, 114, 100, 101, 114, 32, 119, 101, 105, 103, 104, 32, 110, 101, 101, 100, 32, 109, 117, 115, 116, 32, 101, 105, 116, 104, 101, 114] : List Int32).getD j 0) (lN w) 73 0 0 0 = oI (ixO nm0 w 0) := by
  have e0 : amK (fun j => ([98, 97, 114, 32, 100, 97, 121, 115, 32, 99, 104, 97, 105, 110, 32, 114, 97, 116, 101, 32, 115, 112, 108, 105, 116, 32, 99, 97, 112, 32, 116, 101, 115, 116, 32, 108, 97, 116, 101, 32, 112, 97, 114, 116, 32, 111, 114, 100, 101, 114, 32, 119, 101, 105, 103, 104, 32, 110, 101, 101, 100, 32, 109, 117, 115, 116, 32, 101, 105, 116, 104, 101, 114] : List Int32).getD j 0) (lN w) 73 0 0 0 = (if lN 2098 = lN w then nI 0 else if lN 132915 = lN w then nI 1 else if lN 3409198 = lN w then nI 2 else if lN 591493 = lN w then nI 3 else if lN 20459828 = lN w then nI 4 else if lN 3120 = lN w then nI 5 else if lN 661108 = lN w then nI 6 else if lN 394885 = lN w then nI 7 else if lN 525908 = lN w then nI 8 else if lN 16322738 = lN w then nI 9 else if lN 24290536 = lN w then nI 10 else if lN 464036 = lN w then nI 11 else if lN 448116 = lN w then nI 12 else if lN 177873074 = lN w then nI 13 else -1) := rfl
  have e : ∀ c, c < 2 ^ 60 → (lN c = lN w) = (c = w) := fun c hc => propext (pk_lEQ (by omega) (by omega))
  rw [e0]
  simp only [e 2098 (by decide), e 132915 (by decide), e 3409198 (by decide), e 591493 (by decide), e 20459828 (by decide), e 3120 (by decide), e 661108 (by decide), e 394885 (by decide), e 525908 (by decide), e 16322738 (by decide), e 24290536 (by decide), e 464036 (by decide), e 448116 (by decide), e 177873074 (by decide)]
  exact chn_ix nm0 w 0
theorem bk_0 : ∀ j, j < ([98, 97, 114, 32, 100, 97, 121, 115, 32, 99, 104, 97, 105, 110, 32, 114, 97, 116, 101, 32, 115, 112, 108, 105, 116, 32, 99, 97, 112, 32, 116, 101, 115, 116, 32, 108, 97, 116, 101, 32, 112, 97, 114, 116, 32, 111, 114, 100, 101, 114, 32, 119, 101, 105, 103, 104, 32, 110, 101, 101, 100, 32, 109, 117, 115, 116, 32, 101, 105, 116, 104, 101, 114] : List Int32).length → ([98, 97, 114, 32, 100, 97, 121, 115, 32, 99, 104, 97, 105, 110, 32, 114, 97, 116, 101, 32, 115, 112, 108, 105, 116, 32, 99, 97, 112, 32, 116, 101, 115, 116, 32, 108, 97, 116, 101, 32, 112, 97, 114, 116, 32, 111, 114, 100, 101, 114, 32, 119, 101, 105, 103, 104, 32, 110, 101, 101, 100, 32, 109, 117, 115, 116, 32, 101, 105, 116, 104, 101, 114] : List Int32).getD j 0 = 32 ∨ isLe (([98, 97, 114, 32, 100, 97, 121, 115, 32, 99, 104, 97, 105, 110, 32, 114, 97, 116, 101, 32, 115, 112, 108, 105, 116, 32, 99, 97, 112, 32, 116, 101, 115, 116, 32, 108, 97, 116, 101, 32, 112, 97, 114, 116, 32, 111, 114, 100, 101, 114, 32, 119, 101, 105, 103, 104, 32, 110, 101, 101, 100, 32, 109, 117, 115, 116, 32, 101, 105, 116, 104, 101, 114] : List Int32).getD j 0) = true := by decide
def nm1 : List Nat := [409203, 211166663, 81544, 46892851]
set_option maxRecDepth 100000 in
theorem am_1 (w : Nat) (hw : w < 2 ^ 60) : amK (fun j => ([108, 111, 115, 115, 32, 102, 105, 108, 105, 110, 103, 32, 98, 111, 116, 104, 32, 97, 108, 119, 97, 121, 115] : List Int32).getD j 0) (lN w) 23 0 0 0 = oI (ixO nm1 w 0) := by
  have e0 : amK (fun j => ([108, 111, 115, 115, 32, 102, 105, 108, 105, 110, 103, 32, 98, 111, 116, 104, 32, 97, 108, 119, 97, 121, 115] : List Int32).getD j 0) (lN w) 23 0 0 0 = (if lN 409203 = lN w then nI 0 else if lN 211166663 = lN w then nI 1 else if lN 81544 = lN w then nI 2 else if lN 46892851 = lN w then nI 3 else -1) := rfl
  have e : ∀ c, c < 2 ^ 60 → (lN c = lN w) = (c = w) := fun c hc => propext (pk_lEQ (by omega) (by omega))
  rw [e0]
  simp only [e 409203 (by decide), e 211166663 (by decide), e 81544 (by decide), e 46892851 (by decide)]
  exact chn_ix nm1 w 0
theorem bk_1 : ∀ j, j < ([108, 111, 115, 115, 32, 102, 105, 108, 105, 110, 103, 32, 98, 111, 116, 104, 32, 97, 108, 119, 97, 121, 115] : List Int32).length → ([108, 111, 115, 115, 32, 102, 105, 108, 105, 110, 103, 32, 98, 111, 116, 104, 32, 97, 108, 119, 97, 121, 115] : List Int32).getD j 0 = 32 ∨ isLe (([108, 111, 115, 115, 32, 102, 105, 108, 105, 110, 103, 32, 98, 111, 116, 104, 32, 97, 108, 119, 97, 121, 115] : List Int32).getD j 0) = true := by decide
def nm2 : List Nat := [409203, 211166663]
set_option maxRecDepth 100000 in
theorem am_2 (w : Nat) (hw : w < 2 ^ 60) : amK (fun j => ([108, 111, 115, 115, 32, 102, 105, 108, 105, 110, 103] : List Int32).getD j 0) (lN w) 11 0 0 0 = oI (ixO nm2 w 0) := by
  have e0 : amK (fun j => ([108, 111, 115, 115, 32, 102, 105, 108, 105, 110, 103] : List Int32).getD j 0) (lN w) 11 0 0 0 = (if lN 409203 = lN w then nI 0 else if lN 211166663 = lN w then nI 1 else -1) := rfl
  have e : ∀ c, c < 2 ^ 60 → (lN c = lN w) = (c = w) := fun c hc => propext (pk_lEQ (by omega) (by omega))
  rw [e0]
  simp only [e 409203 (by decide), e 211166663 (by decide)]
  exact chn_ix nm2 w 0
theorem bk_2 : ∀ j, j < ([108, 111, 115, 115, 32, 102, 105, 108, 105, 110, 103] : List Int32).length → ([108, 111, 115, 115, 32, 102, 105, 108, 105, 110, 103] : List Int32).getD j 0 = 32 ∨ isLe (([108, 111, 115, 115, 32, 102, 105, 108, 105, 110, 103] : List Int32).getD j 0) = true := by decide
def nm3 : List Nat := [12748404, 431150, 718808645]
set_option maxRecDepth 100000 in
theorem am_3 (w : Nat) (hw : w < 2 ^ 60) : amK (fun j => ([108, 101, 97, 115, 116, 32, 109, 101, 97, 110, 32, 117, 109, 112, 105, 114, 101] : List Int32).getD j 0) (lN w) 17 0 0 0 = oI (ixO nm3 w 0) := by
  have e0 : amK (fun j => ([108, 101, 97, 115, 116, 32, 109, 101, 97, 110, 32, 117, 109, 112, 105, 114, 101] : List Int32).getD j 0) (lN w) 17 0 0 0 = (if lN 12748404 = lN w then nI 0 else if lN 431150 = lN w then nI 1 else if lN 718808645 = lN w then nI 2 else -1) := rfl
  have e : ∀ c, c < 2 ^ 60 → (lN c = lN w) = (c = w) := fun c hc => propext (pk_lEQ (by omega) (by omega))
  rw [e0]
  simp only [e 12748404 (by decide), e 431150 (by decide), e 718808645 (by decide)]
  exact chn_ix nm3 w 0
theorem bk_3 : ∀ j, j < ([108, 101, 97, 115, 116, 32, 109, 101, 97, 110, 32, 117, 109, 112, 105, 114, 101] : List Int32).length → ([108, 101, 97, 115, 116, 32, 109, 101, 97, 110, 32, 117, 109, 112, 105, 114, 101] : List Int32).getD j 0 = 32 ∨ isLe (([108, 101, 97, 115, 116, 32, 109, 101, 97, 110, 32, 117, 109, 112, 105, 114, 101] : List Int32).getD j 0) = true := by decide
def nm4 : List Nat := [16496818, 3197167, 408359090, 10154068146]
set_option maxRecDepth 100000 in
theorem am_4 (w : Nat) (hw : w < 2 ^ 60) : amK (fun j => ([111, 119, 110, 101, 114, 32, 99, 97, 114, 103, 111, 32, 108, 101, 110, 100, 101, 114, 32, 105, 110, 115, 117, 114, 101, 114] : List Int32).getD j 0) (lN w) 26 0 0 0 = oI (ixO nm4 w 0) := by
  have e0 : amK (fun j => ([111, 119, 110, 101, 114, 32, 99, 97, 114, 103, 111, 32, 108, 101, 110, 100, 101, 114, 32, 105, 110, 115, 117, 114, 101, 114] : List Int32).getD j 0) (lN w) 26 0 0 0 = (if lN 16496818 = lN w then nI 0 else if lN 3197167 = lN w then nI 1 else if lN 408359090 = lN w then nI 2 else if lN 10154068146 = lN w then nI 3 else -1) := rfl
  have e : ∀ c, c < 2 ^ 60 → (lN c = lN w) = (c = w) := fun c hc => propext (pk_lEQ (by omega) (by omega))
  rw [e0]
  simp only [e 16496818 (by decide), e 3197167 (by decide), e 408359090 (by decide), e 10154068146 (by decide)]
  exact chn_ix nm4 w 0
theorem bk_4 : ∀ j, j < ([111, 119, 110, 101, 114, 32, 99, 97, 114, 103, 111, 32, 108, 101, 110, 100, 101, 114, 32, 105, 110, 115, 117, 114, 101, 114] : List Int32).length → ([111, 119, 110, 101, 114, 32, 99, 97, 114, 103, 111, 32, 108, 101, 110, 100, 101, 114, 32, 105, 110, 115, 117, 114, 101, 114] : List Int32).getD j 0 = 32 ∨ isLe (([111, 119, 110, 101, 114, 32, 99, 97, 114, 103, 111, 32, 108, 101, 110, 100, 101, 114, 32, 105, 110, 115, 117, 114, 101, 114] : List Int32).getD j 0) = true := by decide
