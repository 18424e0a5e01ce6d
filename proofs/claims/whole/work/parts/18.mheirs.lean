/-! the reference: heirs, lots -/
theorem heK_mem {s : PS} {p kn q : Nat} : ∀ k, q ∈ (heK s p kn k).map (·.1) ↔ ∃ j, j < k ∧ toldP s j 2 p kn ∧ s.2.2.2.2.2.1 j = q
  | 0 => by simp [heK]
  | k + 1 => by
    have ih := heK_mem (s := s) (p := p) (kn := kn) (q := q) k
    unfold heK
    by_cases c : toldP s k 2 p kn
    · rw [if_pos c, hePut_fst]
      constructor
      · intro h
        have : q ∈ (heK s p kn k).map (·.1) ∨ q = s.2.2.2.2.2.1 k := by
          split at h
          · exact Or.inl h
          · rcases List.mem_append.mp h with h | h
            · exact Or.inl h
            · exact Or.inr (List.mem_singleton.mp h)
        rcases this with h | h
        · obtain ⟨j, h1, h2, h3⟩ := ih.mp h
          exact ⟨j, by omega, h2, h3⟩
        · exact ⟨k, by omega, c, h.symm⟩
      · rintro ⟨j, h1, h2, h3⟩
        by_cases hj : j = k
        · subst hj
          split
          next hq => rw [← h3]; exact hq
          next => rw [← h3]; exact List.mem_append_right _ (List.mem_singleton.mpr rfl)
        · have := ih.mpr ⟨j, by omega, h2, h3⟩
          split
          · exact this
          · exact List.mem_append_left _ this
    · rw [if_neg c, ih]
      constructor
      · rintro ⟨j, h1, h2⟩
        exact ⟨j, by omega, h2⟩
      · rintro ⟨j, h1, h2, h3⟩
        by_cases hj : j = k
        · subst hj; exact absurd h2 c
        · exact ⟨j, by omega, h2, h3⟩
theorem heK_pre {s : PS} {p kn k : Nat} : ∀ n, (heK s p kn k).map (·.1) <+: (heK s p kn (k + n)).map (·.1)
  | 0 => List.prefix_rfl
  | n + 1 => by
    refine (heK_pre n).trans ?_
    show _ <+: (heK s p kn (k + n + 1)).map (·.1)
    rw [show heK s p kn (k + n + 1) = @ite _ (toldP s (k + n) 2 p kn) (Classical.propDecidable _) (hePut (heK s p kn (k + n)) (s.2.2.2.2.2.1 (k + n)) (s.2.2.2.2.2.2 (k + n))) (heK s p kn (k + n)) from rfl]
    split
    · rw [hePut_fst]
      split
      · exact List.prefix_rfl
      · exact List.prefix_append _ _
    · exact List.prefix_rfl
/-- the parts told latest -/
noncomputable def parK (s : PS) (p kn q : Nat) : Nat → Nat
  | 0 => 0
  | k + 1 => @ite _ (toldP s k 2 p kn ∧ s.2.2.2.2.2.1 k = q) (Classical.propDecidable _) (s.2.2.2.2.2.2 k) (parK s p kn q k)
theorem hePut_snd {L : List (Nat × Nat)} {q n : Nat} {x : Nat × Nat} (hd : (L.map (·.1)).Nodup) (h : x ∈ hePut L q n) : (x.1 = q ∧ x.2 = n) ∨ (x.1 ≠ q ∧ x ∈ L) := by
  induction L with
  | nil => left; simp [hePut] at h; simp [h]
  | cons y L ih =>
    rw [List.map_cons, List.nodup_cons] at hd
    unfold hePut at h
    split at h
    next hy =>
      rcases List.mem_cons.mp h with rfl | h
      · left; exact ⟨rfl, rfl⟩
      · right
        refine ⟨fun e => hd.1 ?_, List.mem_cons_of_mem _ h⟩
        rw [hy, ← e]
        exact List.mem_map.mpr ⟨x, h, rfl⟩
    next hy =>
      rcases List.mem_cons.mp h with rfl | h
      · right; exact ⟨hy, List.mem_cons_self⟩
      · rcases ih hd.2 h with h | h
        · left; exact h
        · right; exact ⟨h.1, List.mem_cons_of_mem _ h.2⟩
theorem parK_he {s : PS} (ho : PSok s) {p kn : Nat} : ∀ k, k ≤ s.2.1 → ∀ x ∈ heK s p kn k, parK s p kn x.1 k = x.2
  | 0, _, x, hx => by simp [heK] at hx
  | k + 1, hk, x, hx => by
    have ih := parK_he ho (p := p) (kn := kn) k (by omega)
    have hd := (heK_ok ho p kn k (by omega)).1
    unfold heK at hx
    unfold parK
    split at hx
    next c =>
      rcases hePut_snd hd hx with ⟨h1, h2⟩ | ⟨h1, h2⟩
      · rw [if_pos ⟨c, h1.symm⟩, h2]
      · rw [if_neg (fun z => h1 z.2.symm)]
        exact ih x h2
    next c =>
      rw [if_neg (fun z => c z.1)]
      exact ih x hx
theorem parK_le {s : PS} (ho : PSok s) {p kn q : Nat} : ∀ k, k ≤ s.2.1 → parK s p kn q k ≤ 99
  | 0, _ => by simp [parK]
  | k + 1, hk => by
    have ih := parK_le ho (p := p) (kn := kn) (q := q) k (by omega)
    have o1 := (ho.2.2 k (by omega)).2.2.2.2.1
    unfold parK
    split
    · exact o1
    · exact ih
def firP (s : PS) (p kn k : Nat) : Prop := toldP s k 2 p kn ∧ ∀ j, j < k → toldP s j 2 p kn → s.2.2.2.2.2.1 j ≠ s.2.2.2.2.2.1 k
theorem firP_len {s : PS} {p kn k : Nat} (h : firP s p kn k) : (heK s p kn (k + 1)).map (·.1) = (heK s p kn k).map (·.1) ++ [s.2.2.2.2.2.1 k] := by
  rw [show heK s p kn (k + 1) = @ite _ (toldP s k 2 p kn) (Classical.propDecidable _) (hePut (heK s p kn k) (s.2.2.2.2.2.1 k) (s.2.2.2.2.2.2 k)) (heK s p kn k) from rfl, if_pos h.1, hePut_fst, if_neg]
  rw [heK_mem]
  rintro ⟨j, h1, h2, h3⟩
  exact h.2 j h1 h2 h3
theorem firP_no {s : PS} {p kn k : Nat} (h : ¬ firP s p kn k) : (heK s p kn (k + 1)).length = (heK s p kn k).length := by
  rw [show heK s p kn (k + 1) = @ite _ (toldP s k 2 p kn) (Classical.propDecidable _) (hePut (heK s p kn k) (s.2.2.2.2.2.1 k) (s.2.2.2.2.2.2 k)) (heK s p kn k) from rfl]
  split
  next c =>
    have h1 : s.2.2.2.2.2.1 k ∈ (heK s p kn k).map (·.1) := by
      rw [heK_mem]
      rcases Classical.em (∃ j, j < k ∧ toldP s j 2 p kn ∧ s.2.2.2.2.2.1 j = s.2.2.2.2.2.1 k) with z | z
      · exact z
      · exact absurd ⟨c, fun j h1 h2 h3 => z ⟨j, h1, h2, h3⟩⟩ h
    have := congrArg List.length (hePut_fst (L := heK s p kn k) (q := s.2.2.2.2.2.1 k) (n := s.2.2.2.2.2.2 k))
    rw [if_pos h1, List.length_map, List.length_map] at this
    exact this
  next => rfl
theorem firP_at {s : PS} {p kn k : Nat} (hk : k < s.2.1) (h : firP s p kn k) : ((heF s p kn).map (·.1))[(heK s p kn k).length]? = some (s.2.2.2.2.2.1 k) := by
  have h1 := heK_pre (s := s) (p := p) (kn := kn) (k := k + 1) (s.2.1 - (k + 1))
  rw [show k + 1 + (s.2.1 - (k + 1)) = s.2.1 by omega, firP_len h] at h1
  obtain ⟨t, ht⟩ := h1
  show ((heK s p kn s.2.1).map (·.1))[(heK s p kn k).length]? = _
  rw [← ht, List.append_assoc, List.getElem?_append_right (by simp)]
  simp
theorem kx_lv {f : kx_F} {c sl pc : Nat} {lv lv' : List (Option Value)} {st : List Value} {h : kx_Mem} (e : lv = lv') (k : kx_X f c sl pc lv' st h) : kx_X f c sl pc lv st h := e ▸ k
theorem y_partsOf_loop {l : Launch} {g : kx_G} {d : Nat} {h : kx_Mem} (hm : SM h) (s : PS) (ho : PSok s) (hp : PSm s h) (p kn q : Nat) (hpp : p < 2 ^ 31) (hkn : kn < 2 ^ 31) (hqq : q < 2 ^ 31) : ∀ n k, k + n = s.2.1 →  kx_X (l, g, m_Mo_partsOf, d + 1, 0, 0, (fun v h' => v = some (.int (nI (parK s p kn q s.2.1))) ∧ h' = h)) 0 0 6 [some (.ref 84), some (.int (nI p)), some (.int (nI kn)), some (.int (nI q)), some (.int (nI (parK s p kn q k))), some (.int (nI k))] [] (h) := by
  intro n
  induction n with
  | zero =>
    intro k hk 
    have hk0 : k = s.2.1 := by omega
    subst hk0
    refine kx_iload (pc := 6) (kx_dd d_Mo_partsOf 4 rfl) rfl ?_
    refine kx_aload_n (pc := 8) (kx_dd d_Mo_partsOf 5 rfl) rfl rfl ?_
    refine kx_getI (pc := 9) fl_Mo_432 (hm.k 0 rfl) rfl (kx_dd d_Mo_partsOf 6 rfl) ?_
    refine kx_icmp_ge (pc := 12) (tgt := 53) (kx_dd d_Mo_partsOf 7 rfl) rfl (fun c12 => ?_) (fun c12 => ?_)
    · refine kx_iload (pc := 53) (kx_dd d_Mo_partsOf 28 rfl) rfl ?_
      refine kx_iret (pc := 55) rfl (kx_dd d_Mo_partsOf 29 rfl) (Nat.le_refl _) (Nat.le_refl _) ?_
      exact ⟨rfl, rfl⟩
    · exact absurd (by rw [hp.2.1]; exact Int32.le_refl _) c12
  | succ n ih =>
    intro k hk 
    obtain ⟨q1, q2, q3, q4, q5, q6⟩ := hp.2.2 k (by omega)
    have o1 := ho.2.2 k (by omega)
    have o2 := ho.1
    have o3 := ho.2.1
    refine kx_iload (pc := 6) (kx_dd d_Mo_partsOf 4 rfl) rfl ?_
    refine kx_aload_n (pc := 8) (kx_dd d_Mo_partsOf 5 rfl) rfl rfl ?_
    refine kx_getI (pc := 9) fl_Mo_432 (hm.k 0 rfl) rfl (kx_dd d_Mo_partsOf 6 rfl) ?_
    refine kx_icmp_ge (pc := 12) (tgt := 53) (kx_dd d_Mo_partsOf 7 rfl) rfl (fun c12 => ?_) (fun c12 => ?_)
    · exact absurd c12 (by rw [hp.2.1]; exact nI_ge (by omega) (by omega))
    · refine kx_aload_n (pc := 15) (kx_dd d_Mo_partsOf 8 rfl) rfl rfl ?_
      refine kx_iload (pc := 16) (kx_dd d_Mo_partsOf 9 rfl) rfl ?_
      refine kx_iconst (pc := 18) (v := 2) (kx_dd d_Mo_partsOf 10 rfl) rfl ?_
      refine kx_iload_n (pc := 19) (kx_dd d_Mo_partsOf 11 rfl) rfl rfl ?_
      refine kx_iload_n (pc := 20) (kx_dd d_Mo_partsOf 12 rfl) rfl rfl ?_
      refine kx_invV (pc := 21) (a := 84) (as := [_, _, _, _]) (kx_dd d_Mo_partsOf 13 rfl) ⟨lk_Mo_450, wi_Mo_isTelling, we_Mo_isTelling⟩ w_Mo_isTelling (hm.k 0 rfl) rfl rfl rfl rfl (by decide) (y_isTelling (d := d) hm s ho hp k 2 p kn (by omega) (by decide) hpp hkn) (Nat.le_refl _) ⟨Nat.le_refl _, Nat.le_refl _⟩ (fun v h' hq => ?_)
      obtain ⟨rfl, he⟩ := hq
      rw [he]
      clear he
      refine kx_if_eq (pc := 24) (tgt := 47) (kx_dd d_Mo_partsOf 14 rfl) rfl (fun c24 => ?_) (fun c24 => ?_)
      · refine kx_iinc_e (pc := 47) (v := nI (k + 1)) (lv' := [_, _, _, _, _, _]) (kx_dd d_Mo_partsOf 26 rfl) rfl (Nat.le_of_ble_eq_true rfl) (nI_1 k) rfl ?_
        refine kx_goto (pc := 50) (tgt := 6) (kx_dd d_Mo_partsOf 27 rfl) rfl ?_
        rw [bP_0] at c24
        have e1 : parK s p kn q (k + 1) = parK s p kn q k := if_neg (fun z => c24 z.1)
        have ih1 := ih (k + 1) (by omega)
        rw [e1] at ih1
        exact ih1
      · refine kx_aload_n (pc := 27) (kx_dd d_Mo_partsOf 15 rfl) rfl rfl ?_
        refine kx_getR (pc := 28) (b := 110) fl_Mo_288 (hm.k 0 rfl) rfl (hm.r 25 rfl) (kx_dd d_Mo_partsOf 16 rfl) ?_
        refine kx_iload (pc := 31) (kx_dd d_Mo_partsOf 17 rfl) rfl ?_
        refine kx_ialdn (pc := 33) k (hm.t 26 rfl) rfl (by omega) (by decide) (kx_dd d_Mo_partsOf 18 rfl) ?_
        refine kx_iload_n (pc := 34) (kx_dd d_Mo_partsOf 19 rfl) rfl rfl ?_
        refine kx_icmp_ne (pc := 35) (tgt := 47) (kx_dd d_Mo_partsOf 20 rfl) rfl (fun c35 => ?_) (fun c35 => ?_)
        · refine kx_iinc_e (pc := 47) (v := nI (k + 1)) (lv' := [_, _, _, _, _, _]) (kx_dd d_Mo_partsOf 26 rfl) rfl (Nat.le_of_ble_eq_true rfl) (nI_1 k) rfl ?_
          refine kx_goto (pc := 50) (tgt := 6) (kx_dd d_Mo_partsOf 27 rfl) rfl ?_
          rw [bP_0, Classical.not_not] at c24
          rw [(q4 c24.1).2, nI_eq (by omega) (by omega)] at c35
          have e1 : parK s p kn q (k + 1) = parK s p kn q k := if_neg (fun z => c35 z.2)
          have ih1 := ih (k + 1) (by omega)
          rw [e1] at ih1
          exact ih1
        · refine kx_aload_n (pc := 38) (kx_dd d_Mo_partsOf 21 rfl) rfl rfl ?_
          refine kx_getR (pc := 39) (b := 109) fl_Mo_285 (hm.k 0 rfl) rfl (hm.r 24 rfl) (kx_dd d_Mo_partsOf 22 rfl) ?_
          refine kx_iload (pc := 42) (kx_dd d_Mo_partsOf 23 rfl) rfl ?_
          refine kx_ialdn (pc := 44) k (hm.t 25 rfl) rfl (by omega) (by decide) (kx_dd d_Mo_partsOf 24 rfl) ?_
          refine kx_istore_e (pc := 45) (lv' := [_, _, _, _, _, _]) (kx_dd d_Mo_partsOf 25 rfl) (Nat.le_of_ble_eq_true rfl) rfl ?_
          refine kx_iinc_e (pc := 47) (v := nI (k + 1)) (lv' := [_, _, _, _, _, _]) (kx_dd d_Mo_partsOf 26 rfl) rfl (Nat.le_of_ble_eq_true rfl) (nI_1 k) rfl ?_
          refine kx_goto (pc := 50) (tgt := 6) (kx_dd d_Mo_partsOf 27 rfl) rfl ?_
          rw [bP_0, Classical.not_not] at c24
          rw [(q4 c24.1).2, nI_eq (by omega) (by omega)] at c35
          have e1 : parK s p kn q (k + 1) = s.2.2.2.2.2.2 k := if_pos ⟨c24, c35⟩
          have ih1 := ih (k + 1) (by omega)
          rw [e1] at ih1
          rw [(q4 c24.1).1]
          exact ih1
theorem y_partsOf {l : Launch} {g : kx_G} {d : Nat} {h : kx_Mem} (hm : SM h) (s : PS) (ho : PSok s) (hp : PSm s h) (p kn q : Nat) (hpp : p < 2 ^ 31) (hkn : kn < 2 ^ 31) (hqq : q < 2 ^ 31) : kx_Sp l g m_Mo_partsOf [.ref 84, .int (nI p), .int (nI kn), .int (nI q)] h (d + 1) 0 0 (fun v h' => v = some (.int (nI (parK s p kn q s.2.1))) ∧ h' = h) := by
  refine kx_enter_e (lv := [_, _, _, _, _, _]) (by decide +kernel) (Nat.le_of_ble_eq_true rfl) rfl ?_
  refine kx_iconst (pc := 0) (v := 0) (kx_dd d_Mo_partsOf 0 rfl) rfl ?_
  refine kx_istore_e (pc := 1) (lv' := [_, _, _, _, _, _]) (kx_dd d_Mo_partsOf 1 rfl) (Nat.le_of_ble_eq_true rfl) rfl ?_
  refine kx_iconst (pc := 3) (v := 0) (kx_dd d_Mo_partsOf 2 rfl) rfl ?_
  refine kx_istore_e (pc := 4) (lv' := [_, _, _, _, _, _]) (kx_dd d_Mo_partsOf 3 rfl) (Nat.le_of_ble_eq_true rfl) rfl ?_
  exact y_partsOf_loop hm s ho hp p kn q hpp hkn hqq s.2.1 0 (by omega)
theorem y_heirAt_in {l : Launch} {g : kx_G} {d : Nat} {h : kx_Mem} (hm : SM h) (s : PS) (ho : PSok s) (hp : PSm s h) (p kn i : Nat) (hpp : p < 2 ^ 31) (hkn : kn < 2 ^ 31) (hii : i < 2 ^ 31) (k : Nat) (hk : k < s.2.1) (hkt : toldP s k 2 p kn) (kont : kx_X (l, g, m_Mo_heirAt, d + 1, 0, 0, (fun v h' => ∃ r : Int32, v = some (.int r) ∧ ((∃ k, k < s.2.1 ∧ firP s p kn k ∧ (heK s p kn k).length = i ∧ r = nI k) ∨ ((heF s p kn).length ≤ i ∧ r = -1)) ∧ h' = h)) 0 0 90 [some (.ref 84), some (.int (nI p)), some (.int (nI kn)), some (.int (nI i)), some (.int (nI (heK s p kn k).length)), some (.int (nI k)), some (.int (bP (∃ j0, j0 < k ∧ toldP s j0 2 p kn ∧ s.2.2.2.2.2.1 j0 = s.2.2.2.2.2.1 k))), some (.int (nI k))] [] h) : ∀ n j, j + n = k → kx_X (l, g, m_Mo_heirAt, d + 1, 0, 0, (fun v h' => ∃ r : Int32, v = some (.int r) ∧ ((∃ k, k < s.2.1 ∧ firP s p kn k ∧ (heK s p kn k).length = i ∧ r = nI k) ∨ ((heF s p kn).length ≤ i ∧ r = -1)) ∧ h' = h)) 0 0 36 [some (.ref 84), some (.int (nI p)), some (.int (nI kn)), some (.int (nI i)), some (.int (nI (heK s p kn k).length)), some (.int (nI k)), some (.int (bP (∃ j0, j0 < j ∧ toldP s j0 2 p kn ∧ s.2.2.2.2.2.1 j0 = s.2.2.2.2.2.1 k))), some (.int (nI j))] [] h := by
  obtain ⟨q1, q2, q3, q4, q5, q6⟩ := hp.2.2 k (by omega)
  have o1 := ho.2.2 k (by omega)
  have o2 := ho.1
  have o3 := ho.2.1
  intro n
  induction n with
  | zero =>
    intro j hj
    have hj0 : j = k := by omega
    subst hj0
    refine kx_iload (pc := 36) (kx_dd d_Mo_heirAt 20 rfl) rfl ?_
    refine kx_iload (pc := 38) (kx_dd d_Mo_heirAt 21 rfl) rfl ?_
    refine kx_icmp_ge (pc := 40) (tgt := 90) (kx_dd d_Mo_heirAt 22 rfl) rfl (fun c40 => ?_) (fun c40 => ?_)
    · exact kont
    · exact absurd (Int32.le_refl _) c40
  | succ n ih =>
    intro j hj
    obtain ⟨r1, r2, r3, r4, r5, r6⟩ := hp.2.2 j (by omega)
    have u1 := ho.2.2 j (by omega)
    refine kx_iload (pc := 36) (kx_dd d_Mo_heirAt 20 rfl) rfl ?_
    refine kx_iload (pc := 38) (kx_dd d_Mo_heirAt 21 rfl) rfl ?_
    refine kx_icmp_ge (pc := 40) (tgt := 90) (kx_dd d_Mo_heirAt 22 rfl) rfl (fun c40 => ?_) (fun c40 => ?_)
    · exact absurd c40 (nI_ge (by omega) (by omega))
    · refine kx_iload (pc := 43) (kx_dd d_Mo_heirAt 23 rfl) rfl ?_
      refine kx_if_ne (pc := 45) (tgt := 77) (kx_dd d_Mo_heirAt 24 rfl) rfl (fun c45 => ?_) (fun c45 => ?_)
      · refine kx_iconst (pc := 77) (v := 1) (kx_dd d_Mo_heirAt 41 rfl) rfl ?_
        refine kx_goto (pc := 78) (tgt := 82) (kx_dd d_Mo_heirAt 42 rfl) rfl ?_
        refine kx_istore_e (pc := 82) (lv' := [_, _, _, _, _, _, _, _]) (kx_dd d_Mo_heirAt 44 rfl) (Nat.le_of_ble_eq_true rfl) rfl ?_
        refine kx_iinc_e (pc := 84) (v := nI (j + 1)) (lv' := [_, _, _, _, _, _, _, _]) (kx_dd d_Mo_heirAt 45 rfl) rfl (Nat.le_of_ble_eq_true rfl) (nI_1 j) rfl ?_
        refine kx_goto (pc := 87) (tgt := 36) (kx_dd d_Mo_heirAt 46 rfl) rfl ?_
        rw [bP_0, Classical.not_not] at c45
        have ih1 := ih (j + 1) (by omega)
        rw [bP_t (by obtain ⟨j0, z1, z2⟩ := c45; exact ⟨j0, by omega, z2⟩)] at ih1
        exact ih1
      · refine kx_aload_n (pc := 48) (kx_dd d_Mo_heirAt 25 rfl) rfl rfl ?_
        refine kx_iload (pc := 49) (kx_dd d_Mo_heirAt 26 rfl) rfl ?_
        refine kx_iconst (pc := 51) (v := 2) (kx_dd d_Mo_heirAt 27 rfl) rfl ?_
        refine kx_iload_n (pc := 52) (kx_dd d_Mo_heirAt 28 rfl) rfl rfl ?_
        refine kx_iload_n (pc := 53) (kx_dd d_Mo_heirAt 29 rfl) rfl rfl ?_
        refine kx_invV (pc := 54) (a := 84) (as := [_, _, _, _]) (kx_dd d_Mo_heirAt 30 rfl) ⟨lk_Mo_450, wi_Mo_isTelling, we_Mo_isTelling⟩ w_Mo_isTelling (hm.k 0 rfl) rfl rfl rfl rfl (by decide) (y_isTelling (d := d) hm s ho hp j 2 p kn (by omega) (by decide) hpp hkn) (Nat.le_refl _) ⟨Nat.le_refl _, Nat.le_refl _⟩ (fun v h' hq => ?_)
        obtain ⟨rfl, he⟩ := hq
        rw [he]
        clear he
        refine kx_if_eq (pc := 57) (tgt := 81) (kx_dd d_Mo_heirAt 31 rfl) rfl (fun c57 => ?_) (fun c57 => ?_)
        · refine kx_iconst (pc := 81) (v := 0) (kx_dd d_Mo_heirAt 43 rfl) rfl ?_
          refine kx_istore_e (pc := 82) (lv' := [_, _, _, _, _, _, _, _]) (kx_dd d_Mo_heirAt 44 rfl) (Nat.le_of_ble_eq_true rfl) rfl ?_
          refine kx_iinc_e (pc := 84) (v := nI (j + 1)) (lv' := [_, _, _, _, _, _, _, _]) (kx_dd d_Mo_heirAt 45 rfl) rfl (Nat.le_of_ble_eq_true rfl) (nI_1 j) rfl ?_
          refine kx_goto (pc := 87) (tgt := 36) (kx_dd d_Mo_heirAt 46 rfl) rfl ?_
          rw [bP_0] at c45 c57
          have ih1 := ih (j + 1) (by omega)
          rw [bP_f (fun ⟨j0, z1, z2, z3⟩ => by
        rcases Nat.lt_succ_iff_lt_or_eq.mp z1 with z4 | rfl
        · exact c45 ⟨j0, z4, z2, z3⟩
        · exact c57 z2)] at ih1
          exact ih1
        · refine kx_aload_n (pc := 60) (kx_dd d_Mo_heirAt 32 rfl) rfl rfl ?_
          refine kx_getR (pc := 61) (b := 110) fl_Mo_288 (hm.k 0 rfl) rfl (hm.r 25 rfl) (kx_dd d_Mo_heirAt 33 rfl) ?_
          refine kx_iload (pc := 64) (kx_dd d_Mo_heirAt 34 rfl) rfl ?_
          refine kx_ialdn (pc := 66) j (hm.t 26 rfl) rfl (by omega) (by decide) (kx_dd d_Mo_heirAt 35 rfl) ?_
          refine kx_aload_n (pc := 67) (kx_dd d_Mo_heirAt 36 rfl) rfl rfl ?_
          refine kx_getR (pc := 68) (b := 110) fl_Mo_288 (hm.k 0 rfl) rfl (hm.r 25 rfl) (kx_dd d_Mo_heirAt 37 rfl) ?_
          refine kx_iload (pc := 71) (kx_dd d_Mo_heirAt 38 rfl) rfl ?_
          refine kx_ialdn (pc := 73) k (hm.t 26 rfl) rfl (by omega) (by decide) (kx_dd d_Mo_heirAt 39 rfl) ?_
          refine kx_icmp_ne (pc := 74) (tgt := 81) (kx_dd d_Mo_heirAt 40 rfl) rfl (fun c74 => ?_) (fun c74 => ?_)
          · refine kx_iconst (pc := 81) (v := 0) (kx_dd d_Mo_heirAt 43 rfl) rfl ?_
            refine kx_istore_e (pc := 82) (lv' := [_, _, _, _, _, _, _, _]) (kx_dd d_Mo_heirAt 44 rfl) (Nat.le_of_ble_eq_true rfl) rfl ?_
            refine kx_iinc_e (pc := 84) (v := nI (j + 1)) (lv' := [_, _, _, _, _, _, _, _]) (kx_dd d_Mo_heirAt 45 rfl) rfl (Nat.le_of_ble_eq_true rfl) (nI_1 j) rfl ?_
            refine kx_goto (pc := 87) (tgt := 36) (kx_dd d_Mo_heirAt 46 rfl) rfl ?_
            rw [bP_0] at c45
            rw [bP_0, Classical.not_not] at c57
            rw [(r4 c57.1).2, (q4 hkt.1).2, nI_eq (by omega) (by omega)] at c74
            have ih1 := ih (j + 1) (by omega)
            rw [bP_f (fun ⟨j0, z1, z2, z3⟩ => by
        rcases Nat.lt_succ_iff_lt_or_eq.mp z1 with z4 | rfl
        · exact c45 ⟨j0, z4, z2, z3⟩
        · exact c74 z3)] at ih1
            exact ih1
          · refine kx_iconst (pc := 77) (v := 1) (kx_dd d_Mo_heirAt 41 rfl) rfl ?_
            refine kx_goto (pc := 78) (tgt := 82) (kx_dd d_Mo_heirAt 42 rfl) rfl ?_
            refine kx_istore_e (pc := 82) (lv' := [_, _, _, _, _, _, _, _]) (kx_dd d_Mo_heirAt 44 rfl) (Nat.le_of_ble_eq_true rfl) rfl ?_
            refine kx_iinc_e (pc := 84) (v := nI (j + 1)) (lv' := [_, _, _, _, _, _, _, _]) (kx_dd d_Mo_heirAt 45 rfl) rfl (Nat.le_of_ble_eq_true rfl) (nI_1 j) rfl ?_
            refine kx_goto (pc := 87) (tgt := 36) (kx_dd d_Mo_heirAt 46 rfl) rfl ?_
            rw [bP_0] at c45
            rw [bP_0, Classical.not_not] at c57
            rw [(r4 c57.1).2, (q4 hkt.1).2, nI_eq (by omega) (by omega)] at c74
            have ih1 := ih (j + 1) (by omega)
            rw [bP_t ⟨j, by omega, c57, c74⟩] at ih1
            exact ih1
theorem y_heirAt_loop {l : Launch} {g : kx_G} {d : Nat} {h : kx_Mem} (hm : SM h) (s : PS) (ho : PSok s) (hp : PSm s h) (p kn i : Nat) (hpp : p < 2 ^ 31) (hkn : kn < 2 ^ 31) (hii : i < 2 ^ 31) : ∀ n k, k + n = s.2.1 → ∀ w6 w7, (heK s p kn k).length ≤ i → kx_X (l, g, m_Mo_heirAt, d + 1, 0, 0, (fun v h' => ∃ r : Int32, v = some (.int r) ∧ ((∃ k, k < s.2.1 ∧ firP s p kn k ∧ (heK s p kn k).length = i ∧ r = nI k) ∨ ((heF s p kn).length ≤ i ∧ r = -1)) ∧ h' = h)) 0 0 6 [some (.ref 84), some (.int (nI p)), some (.int (nI kn)), some (.int (nI i)), some (.int (nI (heK s p kn k).length)), some (.int (nI k)), w6, w7] [] (h) := by
  intro n
  induction n with
  | zero =>
    intro k hk w6 w7 hle
    have hk0 : k = s.2.1 := by omega
    subst hk0
    refine kx_iload (pc := 6) (kx_dd d_Mo_heirAt 4 rfl) rfl ?_
    refine kx_aload_n (pc := 8) (kx_dd d_Mo_heirAt 5 rfl) rfl rfl ?_
    refine kx_getI (pc := 9) fl_Mo_432 (hm.k 0 rfl) rfl (kx_dd d_Mo_heirAt 6 rfl) ?_
    refine kx_icmp_ge (pc := 12) (tgt := 116) (kx_dd d_Mo_heirAt 7 rfl) rfl (fun c12 => ?_) (fun c12 => ?_)
    · refine kx_iconst (pc := 116) (v := -1) (kx_dd d_Mo_heirAt 58 rfl) rfl ?_
      refine kx_iret (pc := 117) rfl (kx_dd d_Mo_heirAt 59 rfl) (Nat.le_refl _) (Nat.le_refl _) ?_
      exact ⟨_, rfl, Or.inr ⟨hle, rfl⟩, rfl⟩
    · exact absurd (by rw [hp.2.1]; exact Int32.le_refl _) c12
  | succ n ih =>
    intro k hk w6 w7 hle
    obtain ⟨q1, q2, q3, q4, q5, q6⟩ := hp.2.2 k (by omega)
    have o1 := ho.2.2 k (by omega)
    have o2 := ho.1
    have o3 := ho.2.1
    have o4 := heK_len ho p kn k (by omega)
    refine kx_iload (pc := 6) (kx_dd d_Mo_heirAt 4 rfl) rfl ?_
    refine kx_aload_n (pc := 8) (kx_dd d_Mo_heirAt 5 rfl) rfl rfl ?_
    refine kx_getI (pc := 9) fl_Mo_432 (hm.k 0 rfl) rfl (kx_dd d_Mo_heirAt 6 rfl) ?_
    refine kx_icmp_ge (pc := 12) (tgt := 116) (kx_dd d_Mo_heirAt 7 rfl) rfl (fun c12 => ?_) (fun c12 => ?_)
    · exact absurd c12 (by rw [hp.2.1]; exact nI_ge (by omega) (by omega))
    · refine kx_aload_n (pc := 15) (kx_dd d_Mo_heirAt 8 rfl) rfl rfl ?_
      refine kx_iload (pc := 16) (kx_dd d_Mo_heirAt 9 rfl) rfl ?_
      refine kx_iconst (pc := 18) (v := 2) (kx_dd d_Mo_heirAt 10 rfl) rfl ?_
      refine kx_iload_n (pc := 19) (kx_dd d_Mo_heirAt 11 rfl) rfl rfl ?_
      refine kx_iload_n (pc := 20) (kx_dd d_Mo_heirAt 12 rfl) rfl rfl ?_
      refine kx_invV (pc := 21) (a := 84) (as := [_, _, _, _]) (kx_dd d_Mo_heirAt 13 rfl) ⟨lk_Mo_450, wi_Mo_isTelling, we_Mo_isTelling⟩ w_Mo_isTelling (hm.k 0 rfl) rfl rfl rfl rfl (by decide) (y_isTelling (d := d) hm s ho hp k 2 p kn (by omega) (by decide) hpp hkn) (Nat.le_refl _) ⟨Nat.le_refl _, Nat.le_refl _⟩ (fun v h' hq => ?_)
      obtain ⟨rfl, he⟩ := hq
      rw [he]
      clear he
      refine kx_if_ne (pc := 24) (tgt := 30) (kx_dd d_Mo_heirAt 14 rfl) rfl (fun c24 => ?_) (fun c24 => ?_)
      · refine kx_iconst (pc := 30) (v := 0) (kx_dd d_Mo_heirAt 16 rfl) rfl ?_
        refine kx_istore_e (pc := 31) (lv' := [_, _, _, _, _, _, _, _]) (kx_dd d_Mo_heirAt 17 rfl) (Nat.le_of_ble_eq_true rfl) rfl ?_
        refine kx_iconst (pc := 33) (v := 0) (kx_dd d_Mo_heirAt 18 rfl) rfl ?_
        refine kx_istore_e (pc := 34) (lv' := [_, _, _, _, _, _, _, _]) (kx_dd d_Mo_heirAt 19 rfl) (Nat.le_of_ble_eq_true rfl) rfl ?_
        rw [bP_0, Classical.not_not] at c24
        refine kx_lv (lv' := [some (.ref 84), some (.int (nI p)), some (.int (nI kn)), some (.int (nI i)), some (.int (nI (heK s p kn k).length)), some (.int (nI k)), some (.int (bP (∃ j0, j0 < 0 ∧ toldP s j0 2 p kn ∧ s.2.2.2.2.2.1 j0 = s.2.2.2.2.2.1 k))), some (.int (nI 0))]) (by rw [bP_f (fun ⟨j0, z, _⟩ => absurd z (Nat.not_lt_zero j0))]; rfl) (y_heirAt_in hm s ho hp p kn i hpp hkn hii k (by omega) c24 ?_ k 0 (by omega))
        refine kx_iload (pc := 90) (kx_dd d_Mo_heirAt 47 rfl) rfl ?_
        refine kx_if_eq (pc := 92) (tgt := 98) (kx_dd d_Mo_heirAt 48 rfl) rfl (fun c92 => ?_) (fun c92 => ?_)
        · refine kx_iload (pc := 98) (kx_dd d_Mo_heirAt 50 rfl) rfl ?_
          refine kx_iload_n (pc := 100) (kx_dd d_Mo_heirAt 51 rfl) rfl rfl ?_
          refine kx_icmp_ne (pc := 101) (tgt := 107) (kx_dd d_Mo_heirAt 52 rfl) rfl (fun c101 => ?_) (fun c101 => ?_)
          · refine kx_iinc_e (pc := 107) (v := nI ((heK s p kn k).length + 1)) (lv' := [_, _, _, _, _, _, _, _]) (kx_dd d_Mo_heirAt 55 rfl) rfl (Nat.le_of_ble_eq_true rfl) (nI_1 _) rfl ?_
            refine kx_iinc_e (pc := 110) (v := nI (k + 1)) (lv' := [_, _, _, _, _, _, _, _]) (kx_dd d_Mo_heirAt 56 rfl) rfl (Nat.le_of_ble_eq_true rfl) (nI_1 k) rfl ?_
            refine kx_goto (pc := 113) (tgt := 6) (kx_dd d_Mo_heirAt 57 rfl) rfl ?_
            rw [bP_0] at c92
            rw [nI_eq (by omega) (by omega)] at c101
            have hf : firP s p kn k := ⟨c24, fun j z1 z2 z3 => c92 ⟨j, z1, z2, z3⟩⟩
            have e1 : (heK s p kn (k + 1)).length = (heK s p kn k).length + 1 := by have := congrArg List.length (firP_len hf); simpa using this
            have ih1 := ih (k + 1) (by omega) (some (.int (bP (∃ j0, j0 < k ∧ toldP s j0 2 p kn ∧ s.2.2.2.2.2.1 j0 = s.2.2.2.2.2.1 k)))) (some (.int (nI k)))
            rw [e1] at ih1
            exact ih1 (by omega)
          · refine kx_iload (pc := 104) (kx_dd d_Mo_heirAt 53 rfl) rfl ?_
            refine kx_iret (pc := 106) rfl (kx_dd d_Mo_heirAt 54 rfl) (Nat.le_refl _) (Nat.le_refl _) ?_
            rw [bP_0] at c92
            rw [nI_eq (by omega) (by omega)] at c101
            exact ⟨_, rfl, Or.inl ⟨k, by omega, ⟨c24, fun j z1 z2 z3 => c92 ⟨j, z1, z2, z3⟩⟩, c101, rfl⟩, rfl⟩
        · refine kx_goto (pc := 95) (tgt := 110) (kx_dd d_Mo_heirAt 49 rfl) rfl ?_
          refine kx_iinc_e (pc := 110) (v := nI (k + 1)) (lv' := [_, _, _, _, _, _, _, _]) (kx_dd d_Mo_heirAt 56 rfl) rfl (Nat.le_of_ble_eq_true rfl) (nI_1 k) rfl ?_
          refine kx_goto (pc := 113) (tgt := 6) (kx_dd d_Mo_heirAt 57 rfl) rfl ?_
          rw [bP_0, Classical.not_not] at c92
          have e1 := firP_no (s := s) (p := p) (kn := kn) (k := k) (fun z => by obtain ⟨j, z1, z2, z3⟩ := c92; exact z.2 j z1 z2 z3)
          have ih1 := ih (k + 1) (by omega) (some (.int (bP (∃ j0, j0 < k ∧ toldP s j0 2 p kn ∧ s.2.2.2.2.2.1 j0 = s.2.2.2.2.2.1 k)))) (some (.int (nI k)))
          rw [e1] at ih1
          exact ih1 (by omega)
      · refine kx_goto (pc := 27) (tgt := 110) (kx_dd d_Mo_heirAt 15 rfl) rfl ?_
        refine kx_iinc_e (pc := 110) (v := nI (k + 1)) (lv' := [_, _, _, _, _, _, _, _]) (kx_dd d_Mo_heirAt 56 rfl) rfl (Nat.le_of_ble_eq_true rfl) (nI_1 k) rfl ?_
        refine kx_goto (pc := 113) (tgt := 6) (kx_dd d_Mo_heirAt 57 rfl) rfl ?_
        rw [bP_0] at c24
        have e1 := firP_no (s := s) (p := p) (kn := kn) (k := k) (fun z => c24 z.1)
        have ih1 := ih (k + 1) (by omega) w6 w7
        rw [e1] at ih1
        exact ih1 (by omega)
theorem y_heirAt {l : Launch} {g : kx_G} {d : Nat} {h : kx_Mem} (hm : SM h) (s : PS) (ho : PSok s) (hp : PSm s h) (p kn i : Nat) (hpp : p < 2 ^ 31) (hkn : kn < 2 ^ 31) (hii : i < 2 ^ 31) : kx_Sp l g m_Mo_heirAt [.ref 84, .int (nI p), .int (nI kn), .int (nI i)] h (d + 1) 0 0 (fun v h' => ∃ r : Int32, v = some (.int r) ∧ ((∃ k, k < s.2.1 ∧ firP s p kn k ∧ (heK s p kn k).length = i ∧ r = nI k) ∨ ((heF s p kn).length ≤ i ∧ r = -1)) ∧ h' = h) := by
  refine kx_enter_e (lv := [_, _, _, _, _, _, _, _]) (by decide +kernel) (Nat.le_of_ble_eq_true rfl) rfl ?_
  refine kx_iconst (pc := 0) (v := 0) (kx_dd d_Mo_heirAt 0 rfl) rfl ?_
  refine kx_istore_e (pc := 1) (lv' := [_, _, _, _, _, _, _, _]) (kx_dd d_Mo_heirAt 1 rfl) (Nat.le_of_ble_eq_true rfl) rfl ?_
  refine kx_iconst (pc := 3) (v := 0) (kx_dd d_Mo_heirAt 2 rfl) rfl ?_
  refine kx_istore_e (pc := 4) (lv' := [_, _, _, _, _, _, _, _]) (kx_dd d_Mo_heirAt 3 rfl) (Nat.le_of_ble_eq_true rfl) rfl ?_
  exact y_heirAt_loop hm s ho hp p kn i hpp hkn hii s.2.1 0 (by omega) none none (Nat.zero_le _)
