/-! the reference: readMany -/
theorem kwlen {b : Nat → Int32} {n i m : Nat} (h : i ≤ n) (hk : tK b n i = 1) (hm : 32 ^ m ≤ tW b n i) : m + 1 ≤ tE b n i - tP b n i := by
  obtain ⟨t1, t2, t3, t4, t5⟩ := tK1 h hk
  have hlt := wc_lt (b := b) (p := tP b n i) (tE b n i - tP b n i) t4
  rcases Nat.lt_or_ge m (tE b n i - tP b n i) with q | q
  · exact q
  · exact absurd (Nat.lt_of_lt_of_le hlt (Nat.pow_le_pow_right (by decide) q)) (Nat.not_lt.mpr hm)
theorem tW_len {b : Nat → Int32} {n i : Nat} (h : i ≤ n) (hk : tK b n i = 1) : tP b n i + 1 + bgw (tW b n i) ≤ tE b n i := by
  obtain ⟨t1, t2, t3, t4, t5⟩ := tK1 h hk
  unfold bgw
  split
  next q =>
    have := kwlen (m := 1) h hk q
    omega
  · omega
theorem tW_next {b : Nat → Int32} {n i : Nat} (h : i ≤ n) (hk : tK b n i = 1) (hk2 : tK b n (tE b n i) = 1) : tE b n i + 2 + bgw (tW b n (tE b n i)) ≤ tE b n (tE b n i) := by
  obtain ⟨t1, t2, t3, t4, t5⟩ := tK1 h hk
  obtain ⟨s1, s2, s3, s4, s5⟩ := tK1 t2 hk2
  have h1 := tP_le (b := b) t2
  have h2 := tW_len t2 hk2
  have h3 : tP b n (tE b n i) ≠ tE b n i := by
    intro e
    have h4 := s4 0 (by omega)
    rw [Nat.add_zero, e] at h4
    exact t5 (by omega) h4
  omega
theorem kdF_at {b : Nat → Int32} {n i : Nat} {r : RU} {q : Nat × RU × Nat} (h : kdF b n i r = .inr q) : tK b n i = 1 ∧ q.2.2 = tE b n i ∧ (q.2.1 = r ∨ q.2.1 = ruKin r (tW b n i)) := by
  unfold kdF at h
  by_cases c : tK b n i = 1
  · rw [if_pos c] at h
    cases hk : kiF r (tW b n i) with
    | some k =>
      rw [hk] at h
      cases h
      exact ⟨c, rfl, Or.inl rfl⟩
    | none =>
      rw [hk] at h
      simp only at h
      by_cases e : ruK r = 16
      · rw [if_pos e] at h; cases h
      · rw [if_neg e] at h
        cases h
        exact ⟨c, rfl, Or.inr rfl⟩
  · rw [if_neg c] at h; cases h
theorem kdF_D {b : Nat → Int32} {n i : Nat} {r : RU} {q : Nat × RU × Nat} (h : kdF b n i r = .inr q) : ruD q.2.1 = ruD r := by
  rcases (kdF_at h).2.2 with e | e
  · rw [e]
  · rw [e]; rfl
theorem numF_at {b : Nat → Int32} {n i lo hi : Nat} {q : Nat × Nat} (hi0 : i ≤ n) (h : numF b n i lo hi = .inr q) : i < q.2 := by
  unfold numF at h
  by_cases c : tK b n i = 2
  · rw [if_pos c] at h
    split at h
    · cases h
      exact tK_0 hi0 (by omega)
    · cases h
  · rw [if_neg c] at h; cases h
theorem RM.low {b : Nat → Int32} {n i : Nat} {r : RU} {fl : Nat → Prop} {nw : Nat} {T : Nat → Nat} {z z' : Nat} {h : kx_Mem} (hR : RM b n i r fl nw T z h) (hz : wz nw T ≤ z') : RM b n i r fl nw T z' h := by
  obtain ⟨h1, h2, h3, h4, h5, h6, h7, h8, h9, h10⟩ := hR
  exact ⟨h1, h2, h3, h4, h5, h6, ⟨h7.1, h7.2.1, hz⟩, h8, h9, h10⟩
/-- cells behind the rows in use -/
def sprP (r : RU) (a j : Nat) : Prop := ((a = 95 ∨ a = 96) ∧ 40 + ruN r ≤ j) ∨ ((a = 98 ∨ a = 99) ∧ 40 + (ruM r).length ≤ j) ∨ ((a = 101 ∨ a = 102 ∨ a = 103) ∧ 40 + (ruE r).length ≤ j)
theorem FrD.sp {r : RU} {h h' : kx_Mem} (hf : kx_Fc (sprP r) h h') : kx_Fc FrD h h' := hf.mono (fun a j q => by unfold sprP at q; unfold FrD; omega)
theorem RM.spr {b : Nat → Int32} {n i : Nat} {r : RU} {fl : Nat → Prop} {nw : Nat} {T : Nat → Nat} {z : Nat} {h h' : kx_Mem} (hR : RM b n i r fl nw T z h) (hf : kx_Fc (sprP r) h h') : RM b n i r fl nw T z h' := by
  refine hR.put (hf.mono (fun a j q => by unfold sprP at q; omega)) hR.2.2.2.2.1 ?_ (fun k hk => (hf.2 105 k (by unfold sprP; omega)).trans (hR.2.2.2.2.2.2.2.1 k hk))
  obtain ⟨h1, h2, h3, h4, h5, h6, h7, h8, h9, h10⟩ := hR.2.2.2.2.2.1
  have e : ∀ a j, ¬ sprP r a j → h'.1 a j = h.1 a j := hf.2
  unfold sprP at e
  refine ⟨fun k hk => by rw [e _ _ (by omega)]; exact h1 k hk, fun k hk => by rw [e _ _ (by omega)]; exact h2 k hk, by rw [e _ _ (by omega)]; exact h3, fun k hk => by rw [e _ _ (by omega), e _ _ (by omega)]; exact h4 k hk, by rw [e _ _ (by omega)]; exact h5, fun k hk => by rw [e _ _ (by omega), e _ _ (by omega)]; exact h6 k hk, by rw [e _ _ (by omega)]; exact h7, fun k y hy => ?_, by rw [e _ _ (by omega)]; exact h9, fun k y hy => ?_⟩
  · have := (List.getElem?_eq_some_iff.mp hy).1
    rw [e _ _ (by omega), e _ _ (by omega)]; exact h8 k y hy
  · have := (List.getElem?_eq_some_iff.mp hy).1
    rw [e _ _ (by omega), e _ _ (by omega), e _ _ (by omega)]; exact h10 k y hy
theorem RM.wei {b : Nat → Int32} {n i : Nat} {r : RU} {fl : Nat → Prop} {nw : Nat} {T : Nat → Nat} {z k x : Nat} {h : kx_Mem} (hR : RM b n i r fl nw T z h) (hx0 : 1 ≤ x) (hx : x ≤ 99) (hfl : ∀ j, fl j ↔ j = k ∨ 0 < ruWT r j) : RM b n i (ruWei r k x) (wfl (ruWei r k x)) nw T z (kx_setI h 93 (64 + k) (nI x)) := by
  have e : ∀ a j, a ≠ 93 → (kx_setI h 93 (64 + k) (nI x)).1 a j = h.1 a j := fun a j ha => setI_ne (Or.inl ha)
  refine hR.put (kx_Fc.set (Or.inl ⟨by decide, by decide⟩)) (hR.2.2.2.2.1.wei hx) ?_ (fun j hj => ?_)
  · obtain ⟨h1, h2, h3, h4, h5, h6, h7, h8, h9, h10⟩ := hR.2.2.2.2.2.1
    refine ⟨fun k hk => by rw [e _ _ (by decide)]; exact h1 k hk, fun k hk => by rw [e _ _ (by decide)]; exact h2 k hk, by rw [e _ _ (by decide)]; exact h3, fun q hq => ⟨by rw [e _ _ (by decide)]; exact (h4 q hq).1, ?_⟩, by rw [e _ _ (by decide)]; exact h5, fun k hk => by rw [e _ _ (by decide), e _ _ (by decide)]; exact h6 k hk, by rw [e _ _ (by decide)]; exact h7, fun k y hy => by rw [e _ _ (by decide), e _ _ (by decide)]; exact h8 k y hy, by rw [e _ _ (by decide)]; exact h9, fun k y hy => by rw [e _ _ (by decide), e _ _ (by decide), e _ _ (by decide)]; exact h10 k y hy⟩
    show _ = nI (upF (ruWT r) k x q)
    unfold upF
    by_cases ek : q = k
    · rw [if_pos ek, ek]; exact setI_at
    · rw [if_neg ek, setI_ne (Or.inr (by omega))]; exact (h4 q hq).2
  · rw [e _ _ (by decide), hR.2.2.2.2.2.2.2.1 j hj]
    refine bP_c ((hfl j).trans ?_)
    show _ ↔ 0 < upF (ruWT r) k x j
    unfold upF
    by_cases ek : j = k
    · rw [if_pos ek]; exact ⟨fun _ => by omega, fun _ => Or.inl ek⟩
    · rw [if_neg ek]; exact ⟨fun q => q.resolve_left ek, Or.inr⟩
theorem RM.nee {b : Nat → Int32} {n i : Nat} {r : RU} {nw : Nat} {T : Nat → Nat} {z w x : Nat} {h : kx_Mem} (hR : RM b n i r (wfl r) nw T z h) (hw : w < 2 ^ 60) (hx : x ≤ 999) (hn : ruN r < 10) (e1 : wdI nw T w (h.1 95 (40 + ruN r))) (e2 : h.1 96 (40 + ruN r) = nI x) : RM b n i (ruNee r w x) (wfl (ruNee r w x)) nw T z (kx_setI h 94 4 (nI (ruN r + 1))) := by
  have e : ∀ a j, a ≠ 94 → (kx_setI h 94 4 (nI (ruN r + 1))).1 a j = h.1 a j := fun a j ha => setI_ne (Or.inl ha)
  refine hR.put (kx_Fc.set (Or.inl ⟨by decide, by decide⟩)) (hR.2.2.2.2.1.nee hw hx hn) ?_ (fun j hj => by rw [e _ _ (by decide)]; exact hR.2.2.2.2.2.2.2.1 j hj)
  obtain ⟨h1, h2, h3, h4, h5, h6, h7, h8, h9, h10⟩ := hR.2.2.2.2.2.1
  refine ⟨fun k hk => by rw [e _ _ (by decide)]; exact h1 k hk, fun k hk => by rw [e _ _ (by decide)]; exact h2 k hk, by rw [e _ _ (by decide)]; exact h3, fun q hq => by rw [e _ _ (by decide), e _ _ (by decide)]; exact h4 q hq, setI_at, fun k hk => ?_, by rw [e _ _ (by decide)]; exact h7, fun k y hy => by rw [e _ _ (by decide), e _ _ (by decide)]; exact h8 k y hy, by rw [e _ _ (by decide)]; exact h9, fun k y hy => by rw [e _ _ (by decide), e _ _ (by decide), e _ _ (by decide)]; exact h10 k y hy⟩
  have hk' : k < ruN r + 1 := hk
  rw [e _ _ (by decide), e _ _ (by decide)]
  show wdI nw T (upF (ruNW r) (ruN r) w k) _ ∧ _ = nI (upF (ruNP r) (ruN r) x k)
  unfold upF
  by_cases ek : k = ruN r
  · rw [if_pos ek, if_pos ek, ek]; exact ⟨e1, e2⟩
  · rw [if_neg ek, if_neg ek]; exact h6 k (by omega)
theorem ruM_f (r : RU) (y : Nat × Nat × Nat) : ruM (ruDem r (false, y)) = ruM r ++ [(false, y)] := by simp [ruM, ruDem, ruD]
theorem ruE_f (r : RU) (y : Nat × Nat × Nat) : ruE (ruDem r (false, y)) = ruE r := by simp [ruE, ruDem, ruD]
theorem ruM_t (r : RU) (y : Nat × Nat × Nat) : ruM (ruDem r (true, y)) = ruM r := by simp [ruM, ruDem, ruD]
theorem ruE_t (r : RU) (y : Nat × Nat × Nat) : ruE (ruDem r (true, y)) = ruE r ++ [(true, y)] := by simp [ruE, ruDem, ruD]
theorem snoc_at {A : Type} {L : List A} {x y : A} {i : Nat} (h : (L ++ [x])[i]? = some y) : L[i]? = some y ∨ (i = L.length ∧ y = x) := by
  rcases Nat.lt_or_ge i L.length with q | q
  · rw [List.getElem?_append_left q] at h; exact Or.inl h
  · have h1 := (List.getElem?_eq_some_iff.mp h).1
    simp at h1
    have h2 : i = L.length := by omega
    rw [h2, List.getElem?_append_right (Nat.le_refl _), Nat.sub_self] at h
    exact Or.inr ⟨h2, by simpa using h.symm⟩
theorem RM.mus {b : Nat → Int32} {n i : Nat} {r : RU} {nw : Nat} {T : Nat → Nat} {z w k : Nat} {h : kx_Mem} (hR : RM b n i r (wfl r) nw T z h) (hw : w < 2 ^ 60) (hk : k < ruK r) (hn : (ruM r).length < 10) (e1 : wdI nw T w (h.1 98 (40 + (ruM r).length))) (e2 : h.1 99 (40 + (ruM r).length) = nI k) : RM b n i (ruDem r (false, w, k, k)) (wfl (ruDem r (false, w, k, k))) nw T z (kx_setI h 97 4 (nI ((ruM r).length + 1))) := by
  have e : ∀ a j, a ≠ 97 → (kx_setI h 97 4 (nI ((ruM r).length + 1))).1 a j = h.1 a j := fun a j ha => setI_ne (Or.inl ha)
  refine hR.put (kx_Fc.set (Or.inl ⟨by decide, by decide⟩)) (hR.2.2.2.2.1.dem hw hk hk (fun _ => rfl) (fun _ => hn) (fun q => by cases q)) ?_ (fun j hj => by rw [e _ _ (by decide)]; exact hR.2.2.2.2.2.2.2.1 j hj)
  obtain ⟨h1, h2, h3, h4, h5, h6, h7, h8, h9, h10⟩ := hR.2.2.2.2.2.1
  refine ⟨fun k hk => by rw [e _ _ (by decide)]; exact h1 k hk, fun k hk => by rw [e _ _ (by decide)]; exact h2 k hk, by rw [e _ _ (by decide)]; exact h3, fun q hq => by rw [e _ _ (by decide), e _ _ (by decide)]; exact h4 q hq, by rw [e _ _ (by decide)]; exact h5, fun k hk => by rw [e _ _ (by decide), e _ _ (by decide)]; exact h6 k hk, ?_, fun q y hy => ?_, by rw [e _ _ (by decide), ruE_f]; exact h9, fun k y hy => by rw [ruE_f] at hy; rw [e _ _ (by decide), e _ _ (by decide), e _ _ (by decide)]; exact h10 k y hy⟩
  · rw [ruM_f, List.length_append]; exact setI_at
  · rw [ruM_f] at hy
    rw [e _ _ (by decide), e _ _ (by decide)]
    rcases snoc_at hy with a | ⟨a, a2⟩
    · exact h8 q y a
    · subst a; subst a2; exact ⟨e1, e2⟩
theorem RM.eit {b : Nat → Int32} {n i : Nat} {r : RU} {nw : Nat} {T : Nat → Nat} {z w k k2 : Nat} {h : kx_Mem} (hR : RM b n i r (wfl r) nw T z h) (hw : w < 2 ^ 60) (hk : k < ruK r) (hk2 : k2 < ruK r) (hn : (ruE r).length < 10) (e1 : wdI nw T w (h.1 101 (40 + (ruE r).length))) (e2 : h.1 102 (40 + (ruE r).length) = nI k) (e3 : h.1 103 (40 + (ruE r).length) = nI k2) : RM b n i (ruDem r (true, w, k, k2)) (wfl (ruDem r (true, w, k, k2))) nw T z (kx_setI h 100 4 (nI ((ruE r).length + 1))) := by
  have e : ∀ a j, a ≠ 100 → (kx_setI h 100 4 (nI ((ruE r).length + 1))).1 a j = h.1 a j := fun a j ha => setI_ne (Or.inl ha)
  refine hR.put (kx_Fc.set (Or.inl ⟨by decide, by decide⟩)) (hR.2.2.2.2.1.dem hw hk hk2 (fun q => by cases q) (fun q => by cases q) (fun _ => hn)) ?_ (fun j hj => by rw [e _ _ (by decide)]; exact hR.2.2.2.2.2.2.2.1 j hj)
  obtain ⟨h1, h2, h3, h4, h5, h6, h7, h8, h9, h10⟩ := hR.2.2.2.2.2.1
  refine ⟨fun k hk => by rw [e _ _ (by decide)]; exact h1 k hk, fun k hk => by rw [e _ _ (by decide)]; exact h2 k hk, by rw [e _ _ (by decide)]; exact h3, fun q hq => by rw [e _ _ (by decide), e _ _ (by decide)]; exact h4 q hq, by rw [e _ _ (by decide)]; exact h5, fun k hk => by rw [e _ _ (by decide), e _ _ (by decide)]; exact h6 k hk, by rw [e _ _ (by decide), ruM_t]; exact h7, fun k y hy => by rw [ruM_t] at hy; rw [e _ _ (by decide), e _ _ (by decide)]; exact h8 k y hy, ?_, fun q y hy => ?_⟩
  · rw [ruE_t, List.length_append]; exact setI_at
  · rw [ruE_t] at hy
    rw [e _ _ (by decide), e _ _ (by decide), e _ _ (by decide)]
    rcases snoc_at hy with a | ⟨a, a2⟩
    · exact h10 q y a
    · subst a; subst a2; exact ⟨e1, e2, e3⟩
noncomputable def mnF (b : Nat → Int32) (n i : Nat) (r : RU) : Fa ⊕ (RU × Nat) := match chO b n i nm0 with
  | none => .inl (1, tP b n i)
  | some c => @ite _ (fulP r c) (Classical.propDecidable _) (.inl (4, tP b n i)) (bodF c b n (tE b n i) r)
theorem mnF_ful {b : Nat → Int32} {n i c : Nat} {r : RU} (h : chO b n i nm0 = some c) (hf : fulP r c) : mnF b n i r = .inl (4, tP b n i) := by
  unfold mnF
  rw [h]
  exact if_pos hf
theorem mnF_bod {b : Nat → Int32} {n i c : Nat} {r : RU} (h : chO b n i nm0 = some c) (hf : ¬ fulP r c) : mnF b n i r = bodF c b n (tE b n i) r := by
  unfold mnF
  rw [h]
  exact if_neg hf
theorem y_mw59 {l : Launch} {g : kx_G} {d : Nat} {h : kx_Mem} (b : Nat → Int32) (n i : Nat) (r : RU) (nw : Nat) (T : Nat → Nat) (z : Nat) (hR : RM b n i r (wfl r) nw T z h) (hz9 : z < 1960) (hJ : tK b n i = 1 → ∃ j, j < nw ∧ T j = tW b n i) (hW : ¬ (tK b n i = 1 ∧ weiP r (tW b n i))) (Q9 : Option Value → kx_Mem → Prop) (Z9 : kx_Mem → Prop) (hQ : ∀ q h', wgF b n i r = .inr q → RM b n q.2 q.1 (wfl q.1) nw T z h' → kx_Fc FrD h h' → tK b n i = 1 ∧ tE b n i < q.2 → Q9 none h') (hZ : ∀ f h', wgF b n i r = .inl f → ZF f nw T (z + 1) h h' → Z9 h') (w1 : Option Value) : kt_X (l, g, m_Mo_readMany, d + 5, 0, 0, Q9, Z9, []) 0 0 59 [some (.ref 84), w1, none] [] h := by
  have hm := hR.1
  have hin := hR.2.2.1
  have hki := tK_le (b := b) (n := n) (i := i)
  obtain ⟨k1, k2, k3, k4⟩ := id hR.2.2.2.1
  have ho := hR.2.2.2.2.1
  have o16 := ho.1
  have hn6 := hR.2.1.1.2.1
  refine kt_aload_n (pc := 59) (kx_dd d_Mo_readMany 32 rfl) rfl rfl ?_
  refine kt_invT (a := 84) (as := []) (kx_dd d_Mo_readMany 33 rfl) lm_Mo_201 wi_Mo_readKind we_Mo_readKind w_Mo_readKind (hm.k 0 rfl) rfl rfl rfl rfl (Nat.le_of_ble_eq_true rfl) (y_readKind (d := d + 1) b n i r nw T z hR hz9) (Nat.le_refl _) ⟨Nat.le_refl _, Nat.le_refl _⟩ (fun v h' hq => ?_) (fun h' hz => Or.inl ⟨rfl, (by obtain ⟨f, y1, y2⟩ := hz; exact hZ f _ (by unfold wgF; rw [if_neg hW, y1]) y2)⟩)
  revert h'
  intro h1 hq
  obtain ⟨q9, hK, rfl, hq9, nw2, T2, eW, hR1, hF1⟩ := hq
  obtain ⟨a1, a2, a3⟩ := kdF_at hK
  obtain ⟨j, j1, j2⟩ := hJ a1
  rw [waF_y j1 j2] at eW
  cases eW
  have hR1 := hR1.low hR.2.2.2.2.2.2.1.2.2
  have hm := hR1.1
  have o16 := hR1.2.2.2.2.1.1
  refine kt_istore_ne (pc := 63) (lv' := [_, _, _]) (kx_dd d_Mo_readMany 34 rfl) rfl (Nat.le_of_ble_eq_true rfl) rfl ?_
  refine kt_aload_n (pc := 64) (kx_dd d_Mo_readMany 35 rfl) rfl rfl ?_
  refine kt_getR (pc := 65) (b := 105) fl_Mo_112 (hm.k 0 rfl) rfl (hm.r 20 rfl) (kx_dd d_Mo_readMany 36 rfl) ?_
  refine kt_iload_n (pc := 68) (kx_dd d_Mo_readMany 37 rfl) rfl rfl ?_
  refine kt_iconst (pc := 69) (v := 1) (kx_dd d_Mo_readMany 38 rfl) rfl ?_
  refine kt_zastn (pc := 70) q9.1 (hm.t 21 rfl) (by decide) rfl (by omega) (by decide) (kx_dd d_Mo_readMany 39 rfl) ?_
  have hf9 : kx_Fc (fun a j => a = 105) h1 (kx_setI h1 105 q9.1 1) := kx_Fc.set rfl
  have hR2 : RM b n q9.2.2 q9.2.1 (fun j => j = q9.1 ∨ 0 < ruWT q9.2.1 j) nw T z (kx_setI h1 105 q9.1 1) := hR1.put (hf9.mono (fun a j q => by omega)) hR1.2.2.2.2.1 (hR1.2.2.2.2.2.1.fm hf9 (fun a j q1 q2 => by omega)) (fun k hk => by
    by_cases e : k = q9.1
    · rw [e, setI_at, bP_t (Or.inl rfl)]
    · rw [setI_ne (Or.inr e)]; exact (hR1.2.2.2.2.2.2.2.1 k hk).trans (bP_c ⟨Or.inr, fun x => x.resolve_left e⟩))
  have hm := hR2.1
  have hF2 : kx_Fc FrD h (kx_setI h1 105 q9.1 1) := (kx_Fc.fk hF1).tr (hf9.mono (fun a j q => by unfold FrD; omega))
  refine kt_aload_n (pc := 71) (kx_dd d_Mo_readMany 40 rfl) rfl rfl ?_
  refine kt_getR (pc := 72) (b := 93) fl_Mo_109 (hm.k 0 rfl) rfl (hm.r 8 rfl) (kx_dd d_Mo_readMany 41 rfl) ?_
  refine kt_bipush (pc := 75) (v := 64) (kx_dd d_Mo_readMany 42 rfl) rfl ?_
  refine kt_iload_n (pc := 77) (kx_dd d_Mo_readMany 43 rfl) rfl rfl ?_
  refine kt_iadd (pc := 78) (kx_dd d_Mo_readMany 44 rfl) ?_
  refine kt_aload_n (pc := 79) (kx_dd d_Mo_readMany 45 rfl) rfl rfl ?_
  refine kt_iconst (pc := 80) (v := 1) (kx_dd d_Mo_readMany 46 rfl) rfl ?_
  refine kt_bipush (pc := 81) (v := 99) (kx_dd d_Mo_readMany 47 rfl) rfl ?_
  refine kt_invT (a := 84) (as := [_, _]) (kx_dd d_Mo_readMany 48 rfl) lm_Mo_155 wi_Mo_number we_Mo_number w_Mo_number (hm.k 0 rfl) rfl rfl rfl rfl (Nat.le_of_ble_eq_true rfl) (y_number (d := d + 2) b n q9.2.2 q9.2.1 _ nw T z hR2 1 99 (by omega) (by omega)) (Nat.le_refl _) ⟨Nat.le_refl _, Nat.le_refl _⟩ (fun v h' hq => ?_) (fun h' hz => Or.inl ⟨rfl, (by obtain ⟨f, y1, y2⟩ := hz; exact hZ f _ (by unfold wgF; rw [if_neg hW, hK]; simp only [y1]) (y2.up WEx.rf (by omega) hF2))⟩)
  revert h'
  intro h3 hq
  obtain ⟨q8, hN, rfl, hR3, hF3⟩ := hq
  have hm := hR3.1
  refine kt_iastn (pc := 86) (64 + q9.1) (hm.t 9 rfl) (by decide) (nI_add 64 _) (by omega) (by decide) (kx_dd d_Mo_readMany 49 rfl) ?_
  refine kt_goto (pc := 87) (tgt := 394) (kx_dd d_Mo_readMany 50 rfl) rfl ?_
  refine kt_ofX (kx_vret (pc := 394) rfl (kx_dd d_Mo_readMany 233 rfl) (Nat.le_refl _) (Nat.le_refl _) ?_)
  have g9 := numF_ge hR2.2.2.1 hN
  have g8 := numF_at hR2.2.2.1 hN
  exact hQ (ruWei q9.2.1 q9.1 q8.1, q8.2) _ (by unfold wgF; rw [if_neg hW, hK]; simp only [hN]) (hR3.wei g9.2.1 g9.2.2.1 (fun j => Iff.rfl)) ((hF2.tr (kx_Fc.fs hF3)).tr (kx_Fc.set (by unfold FrD; omega))) ⟨a1, by rw [← a2]; exact g8⟩
theorem y_mn149 {l : Launch} {g : kx_G} {d : Nat} {h : kx_Mem} (b : Nat → Int32) (n i : Nat) (r : RU) (nw : Nat) (T : Nat → Nat) (z : Nat) (hR : RM b n i r (wfl r) nw T z h) (hn : ruN r < 10) (j : Nat) (hj : j < nw) (hT : T j = tW b n i) (ht : tK b n i = 1) (Q9 : Option Value → kx_Mem → Prop) (Z9 : kx_Mem → Prop) (hQ : ∀ q h', neeF b n i r = .inr q → RM b n q.2 q.1 (wfl q.1) nw T z h' → kx_Fc FrD h h' → tE b n i < q.2 → Q9 none h') (hZ : ∀ f h', neeF b n i r = .inl f → ZF f nw T z h h' → Z9 h') : ∀ f k, k + f = ruN r → (∀ x, x < k → ruNW r x ≠ tW b n i) → kt_X (l, g, m_Mo_readMany, d + 5, 0, 0, Q9, Z9, []) 0 0 149 [some (.ref 84), some (.int (nI j)), some (.int (nI k))] [] h := by
  have hm := hR.1
  have hin := hR.2.2.1
  have hki := tK_le (b := b) (n := n) (i := i)
  obtain ⟨k1, k2, k3, k4⟩ := id hR.2.2.2.1
  have ho := hR.2.2.2.2.1
  have o16 := ho.1
  have hn6 := hR.2.1.1.2.1
  have hru := hR.2.2.2.2.2.1
  have e94 : h.1 94 4 = nI (ruN r) := hru.2.2.2.2.1
  intro f
  induction f with
  | zero =>
    intro k hk hno
    have hk0 : k = ruN r := by omega
    subst hk0
    have hne : neF r (tW b n i) = none := by
      cases hx : neF r (tW b n i) with
      | none => rfl
      | some k =>
        obtain ⟨x1, x2, x3⟩ := fnd_lt hx
        exact absurd (of_decide_eq_true x2) (hno k x1)
    refine kt_iload_n (pc := 149) (kx_dd d_Mo_readMany 84 rfl) rfl rfl ?_
    refine kt_aload_n (pc := 150) (kx_dd d_Mo_readMany 85 rfl) rfl rfl ?_
    refine kt_getR (pc := 151) (b := 94) fl_Mo_94 (hm.k 0 rfl) rfl (hm.r 9 rfl) (kx_dd d_Mo_readMany 86 rfl) ?_
    refine kt_iconst (pc := 154) (v := 4) (kx_dd d_Mo_readMany 87 rfl) rfl ?_
    refine kt_ialdn (pc := 155) 4 (hm.t 10 rfl) rfl (by decide) (by decide) (kx_dd d_Mo_readMany 88 rfl) ?_
    refine kt_icmp_ge (pc := 156) (tgt := 184) (kx_dd d_Mo_readMany 89 rfl) rfl (fun c156 => ?_) (fun c156 => ?_)
    · refine kt_aload_n (pc := 184) (kx_dd d_Mo_readMany 104 rfl) rfl rfl ?_
      refine kt_invV (pc := 185) (a := 84) (as := []) (kx_dd d_Mo_readMany 105 rfl) ⟨lk_Mo_77, wi_Mo_scan, we_Mo_scan⟩ w_Mo_scan (hm.k 0 rfl) rfl rfl rfl rfl (Nat.le_of_ble_eq_true rfl) (y_scan (d := d + 3) hR.1 b n (tE b n i) hR.2.1.1 hR.2.1.2 (tE_n hR.2.2.1).1 hR.2.2.2.1.1) (Nat.le_refl _) ⟨Nat.le_refl _, Nat.le_refl _⟩ (fun v h' hq => ?_)
      revert h'
      intro h1 hq
      obtain ⟨rfl, hts9, hfs9⟩ := hq
      have hR1 := hR.scan hts9 hfs9
      have hF1 : kx_Fc FrD h h1 := kx_Fc.fs hfs9
      have hm := hR1.1
      have e94b : h1.1 94 4 = nI (ruN r) := hR1.2.2.2.2.2.1.2.2.2.2.1
      refine kt_bipush (pc := 188) (v := 40) (kx_dd d_Mo_readMany 106 rfl) rfl ?_
      refine kt_aload_n (pc := 190) (kx_dd d_Mo_readMany 107 rfl) rfl rfl ?_
      refine kt_getR (pc := 191) (b := 94) fl_Mo_94 (hm.k 0 rfl) rfl (hm.r 9 rfl) (kx_dd d_Mo_readMany 108 rfl) ?_
      refine kt_iconst (pc := 194) (v := 4) (kx_dd d_Mo_readMany 109 rfl) rfl ?_
      refine kt_ialdn (pc := 195) 4 (hm.t 10 rfl) rfl (by decide) (by decide) (kx_dd d_Mo_readMany 110 rfl) ?_
      refine kt_iadd (pc := 196) (kx_dd d_Mo_readMany 111 rfl) ?_
      refine kt_istore_ne (pc := 197) (lv' := [_, _, _]) (kx_dd d_Mo_readMany 112 rfl) rfl (Nat.le_of_ble_eq_true rfl) rfl ?_
      refine kt_aload_n (pc := 198) (kx_dd d_Mo_readMany 113 rfl) rfl rfl ?_
      refine kt_getR (pc := 199) (b := 95) fl_Mo_206 (hm.k 0 rfl) rfl (hm.r 10 rfl) (kx_dd d_Mo_readMany 114 rfl) ?_
      refine kt_iload_n (pc := 202) (kx_dd d_Mo_readMany 115 rfl) rfl rfl ?_
      refine kt_iload_n (pc := 203) (kx_dd d_Mo_readMany 116 rfl) rfl rfl ?_
      refine kt_iastn (pc := 204) (40 + ruN r) (hm.t 11 rfl) (by decide) (by rw [e94b]; exact nI_add 40 _) (by omega) (by decide) (kx_dd d_Mo_readMany 117 rfl) ?_
      have hf9 : kx_Fc (sprP r) h1 (kx_setI h1 95 (40 + ruN r) (nI j)) := kx_Fc.set (Or.inl ⟨Or.inl rfl, Nat.le_refl _⟩)
      have hR2 := hR1.spr hf9
      have hm := hR2.1
      have hF2 : kx_Fc FrD h (kx_setI h1 95 (40 + ruN r) (nI j)) := hF1.tr (FrD.sp hf9)
      refine kt_aload_n (pc := 205) (kx_dd d_Mo_readMany 118 rfl) rfl rfl ?_
      refine kt_getR (pc := 206) (b := 96) fl_Mo_209 (hm.k 0 rfl) rfl (hm.r 11 rfl) (kx_dd d_Mo_readMany 119 rfl) ?_
      refine kt_iload_n (pc := 209) (kx_dd d_Mo_readMany 120 rfl) rfl rfl ?_
      refine kt_aload_n (pc := 210) (kx_dd d_Mo_readMany 121 rfl) rfl rfl ?_
      refine kt_iconst (pc := 211) (v := 0) (kx_dd d_Mo_readMany 122 rfl) rfl ?_
      refine kt_sipush (pc := 212) (v := 999) (kx_dd d_Mo_readMany 123 rfl) rfl ?_
      refine kt_invT (a := 84) (as := [_, _]) (kx_dd d_Mo_readMany 124 rfl) lm_Mo_155 wi_Mo_number we_Mo_number w_Mo_number (hm.k 0 rfl) rfl rfl rfl rfl (Nat.le_of_ble_eq_true rfl) (y_number (d := d + 2) b n (tE b n i) r _ nw T z hR2 0 999 (by omega) (by omega)) (Nat.le_refl _) ⟨Nat.le_refl _, Nat.le_refl _⟩ (fun v h' hq => ?_) (fun h' hz => Or.inl ⟨rfl, (by obtain ⟨f, y1, y2⟩ := hz; exact hZ f _ (by unfold neeF; rw [if_pos ht, if_pos hne]; simp only [y1]) (y2.up WEx.rf (Nat.le_refl _) hF2))⟩)
      revert h'
      intro h3 hq
      obtain ⟨q8, hN, rfl, hR3, hF3⟩ := hq
      have hm := hR3.1
      refine kt_iastn (pc := 218) (40 + ruN r) (hm.t 12 rfl) (by decide) (by rw [e94b]; exact nI_add 40 _) (by omega) (by decide) (kx_dd d_Mo_readMany 125 rfl) ?_
      refine kt_aload_n (pc := 219) (kx_dd d_Mo_readMany 126 rfl) rfl rfl ?_
      refine kt_getR (pc := 220) (b := 94) fl_Mo_94 (hm.k 0 rfl) rfl (hm.r 9 rfl) (kx_dd d_Mo_readMany 127 rfl) ?_
      refine kt_iconst (pc := 223) (v := 4) (kx_dd d_Mo_readMany 128 rfl) rfl ?_
      refine kt_dup2 (pc := 224) (kx_dd d_Mo_readMany 129 rfl) rfl rfl ?_
      refine kt_ialdn (pc := 225) 4 (hm.t 10 rfl) rfl (by decide) (by decide) (kx_dd d_Mo_readMany 130 rfl) ?_
      refine kt_iconst (pc := 226) (v := 1) (kx_dd d_Mo_readMany 131 rfl) rfl ?_
      refine kt_iadd (pc := 227) (kx_dd d_Mo_readMany 132 rfl) ?_
      refine kt_iastn (pc := 228) 4 (hm.t 10 rfl) (by decide) rfl (by decide) (by decide) (kx_dd d_Mo_readMany 133 rfl) ?_
      refine kt_goto (pc := 229) (tgt := 394) (kx_dd d_Mo_readMany 134 rfl) rfl ?_
      refine kt_ofX (kx_vret (pc := 394) rfl (kx_dd d_Mo_readMany 233 rfl) (Nat.le_refl _) (Nat.le_refl _) ?_)
      have g9 := numF_ge hR2.2.2.1 hN
      have g8 := numF_at hR2.2.2.1 hN
      have hf8 : kx_Fc (sprP r) h3 (kx_setI h3 96 (40 + ruN r) (nI q8.1)) := kx_Fc.set (Or.inl ⟨Or.inr rfl, Nat.le_refl _⟩)
      have hR4 := hR3.spr hf8
      have e95 : (kx_setI h3 96 (40 + ruN r) (nI q8.1)).1 95 (40 + ruN r) = nI j := by rw [setI_ne (Or.inl (by decide)), hF3.2 95 _ (by simp [FsM])]; exact setI_at
      have e94c : (kx_setI h3 96 (40 + ruN r) (nI q8.1)).1 94 4 = nI (ruN r) := hR4.2.2.2.2.2.1.2.2.2.2.1
      rw [e94c, nI_1]
      have hR5 := hR4.nee (w := tW b n i) (x := q8.1) (tW_lt hin ht).2 g9.2.2.1 hn ⟨j, hj, hT, e95⟩ setI_at
      exact hQ (ruNee r (tW b n i) q8.1, q8.2) _ (by unfold neeF; rw [if_pos ht, if_pos hne]; simp only [hN]) hR5 (((hF2.tr (kx_Fc.fs hF3)).tr (FrD.sp hf8)).tr (kx_Fc.set (by unfold FrD; omega))) g8
    · exact absurd (by rw [e94]; exact Int32.le_refl _) c156
  | succ f ih =>
    intro k hk hno
    have hlt : k < ruN r := by omega
    have hwd := hru.2.2.2.2.2.1 k hlt
    refine kt_iload_n (pc := 149) (kx_dd d_Mo_readMany 84 rfl) rfl rfl ?_
    refine kt_aload_n (pc := 150) (kx_dd d_Mo_readMany 85 rfl) rfl rfl ?_
    refine kt_getR (pc := 151) (b := 94) fl_Mo_94 (hm.k 0 rfl) rfl (hm.r 9 rfl) (kx_dd d_Mo_readMany 86 rfl) ?_
    refine kt_iconst (pc := 154) (v := 4) (kx_dd d_Mo_readMany 87 rfl) rfl ?_
    refine kt_ialdn (pc := 155) 4 (hm.t 10 rfl) rfl (by decide) (by decide) (kx_dd d_Mo_readMany 88 rfl) ?_
    refine kt_icmp_ge (pc := 156) (tgt := 184) (kx_dd d_Mo_readMany 89 rfl) rfl (fun c156 => ?_) (fun c156 => ?_)
    · exact absurd c156 (by rw [e94]; exact nI_ge (by omega) (by omega))
    · refine kt_aload_n (pc := 159) (kx_dd d_Mo_readMany 90 rfl) rfl rfl ?_
      refine kt_getR (pc := 160) (b := 95) fl_Mo_206 (hm.k 0 rfl) rfl (hm.r 10 rfl) (kx_dd d_Mo_readMany 91 rfl) ?_
      refine kt_bipush (pc := 163) (v := 40) (kx_dd d_Mo_readMany 92 rfl) rfl ?_
      refine kt_iload_n (pc := 165) (kx_dd d_Mo_readMany 93 rfl) rfl rfl ?_
      refine kt_iadd (pc := 166) (kx_dd d_Mo_readMany 94 rfl) ?_
      refine kt_ialdn (pc := 167) (40 + k) (hm.t 11 rfl) (nI_add 40 _) (by omega) (by decide) (kx_dd d_Mo_readMany 95 rfl) ?_
      refine kt_iload_n (pc := 168) (kx_dd d_Mo_readMany 96 rfl) rfl rfl ?_
      refine kt_icmp_ne (pc := 169) (tgt := 178) (kx_dd d_Mo_readMany 97 rfl) rfl (fun c169 => ?_) (fun c169 => ?_)
      · refine kt_iinc_e (pc := 178) (v := nI (k + 1)) (lv' := [_, _, _]) (kx_dd d_Mo_readMany 102 rfl) rfl (Nat.le_of_ble_eq_true rfl) (nI_1 k) rfl ?_
        refine kt_goto (pc := 181) (tgt := 149) (kx_dd d_Mo_readMany 103 rfl) rfl ?_
        rw [wd_eq hR.2.2.2.2.2.2.1.1 hwd.1 hj, hT] at c169
        refine ih (k + 1) (by omega) (fun x hx => ?_)
        by_cases e : x = k
        · rw [e]; exact c169
        · exact hno x (by omega)
      · refine kt_aload_n (pc := 172) (kx_dd d_Mo_readMany 98 rfl) rfl rfl ?_
        refine kt_iconst (pc := 173) (v := 3) (kx_dd d_Mo_readMany 99 rfl) rfl ?_
        refine kt_invV (pc := 174) (a := 84) (as := [_]) (kx_dd d_Mo_readMany 100 rfl) ⟨lk_Mo_73, wi_Mo_wrong, we_Mo_wrong⟩ w_Mo_wrong (hm.k 0 rfl) rfl rfl rfl rfl (Nat.le_of_ble_eq_true rfl) (y_wrong (d := d + 4) hm (nI 3)) (Nat.le_refl _) ⟨Nat.le_refl _, Nat.le_refl _⟩ (fun v h' hq => ?_)
        revert h'
        intro h9 hq
        obtain ⟨rfl, rfl⟩ := hq
        refine kt_athrow (kx_dd d_Mo_readMany 101 rfl) rfl (Nat.le_refl _) (Nat.le_refl _) ?_
        rw [wd_eq hR.2.2.2.2.2.2.1.1 hwd.1 hj, hT] at c169
        have hne : neF r (tW b n i) ≠ none := by rw [show neF r (tW b n i) = some k from fnd_some hlt (decide_eq_true c169) (fun x hx q => hno x hx (of_decide_eq_true q))]; exact Option.some_ne_none k
        exact hZ _ _ (by unfold neeF; rw [if_pos ht, if_neg hne]) (hR.fau 3)
theorem waF_exq {n n' : Nat} {T T' : Nat → Nat} {c : Nat} (e : waF n T c = (n', T')) : WEx n T n' T' := by
  have k := waF_ex (n := n) (T := T) (c := c)
  rw [e] at k
  exact k
theorem bgw_le (c : Nat) : bgw c ≤ 1 := by unfold bgw; split <;> omega
theorem y_mw {l : Launch} {g : kx_G} {d : Nat} {h : kx_Mem} (b : Nat → Int32) (n i : Nat) (r : RU) (nw : Nat) (T : Nat → Nat) (z : Nat) (hR : RM b n i r (wfl r) nw T z h) (hz9 : z < 1957) (hc : tK b n i = 1 ∧ tW b n i = 24290536) : kt_X (l, g, m_Mo_readMany, d + 5, 0, 0, (fun v h' => ∃ q, mnF b n i r = .inr q ∧ v = none ∧ ∃ nw' T' z', WEx nw T nw' T' ∧ RM b n q.2 q.1 (wfl q.1) nw' T' z' h' ∧ kx_Fc FrD h h' ∧ 16 * z' + 3 * i ≤ 16 * z + 3 * q.2 + 3), (fun h' => ∃ f, mnF b n i r = .inl f ∧ ZF f nw T (z + 3) h h'), []) 0 0 9 [some (.ref 84), none, none] [] h := by
  have hm := hR.1
  have hin := hR.2.2.1
  have hki := tK_le (b := b) (n := n) (i := i)
  obtain ⟨k1, k2, k3, k4⟩ := id hR.2.2.2.1
  have ho := hR.2.2.2.2.1
  have o16 := ho.1
  have hn6 := hR.2.1.1.2.1
  have hru := hR.2.2.2.2.2.1
  have e94 : h.1 94 4 = nI (ruN r) := hru.2.2.2.2.1
  have e97 : h.1 97 4 = nI (ruM r).length := hru.2.2.2.2.2.2.1
  have e100 : h.1 100 4 = nI (ruE r).length := hru.2.2.2.2.2.2.2.2.1
  have oN := ho.2.2.1
  have oM := ho.2.2.2.2.1
  have oE := ho.2.2.2.2.2.1
  have hch : chO b n i nm0 = some 10 := chO_of hc.1 hc.2 (by decide)
  have hlen := kwlen (m := 4) hin hc.1 (by rw [hc.2]; decide)
  refine kt_aload_n (pc := 9) (kx_dd d_Mo_readMany 4 rfl) rfl rfl ?_
  refine kt_invV (pc := 10) (a := 84) (as := []) (kx_dd d_Mo_readMany 5 rfl) ⟨lk_Mo_77, wi_Mo_scan, we_Mo_scan⟩ w_Mo_scan (hm.k 0 rfl) rfl rfl rfl rfl (Nat.le_of_ble_eq_true rfl) (y_scan (d := d + 3) hR.1 b n (tE b n i) hR.2.1.1 hR.2.1.2 (tE_n hR.2.2.1).1 hR.2.2.2.1.1) (Nat.le_refl _) ⟨Nat.le_refl _, Nat.le_refl _⟩ (fun v h' hq => ?_)
  revert h'
  intro h1 hq
  obtain ⟨rfl, hts9, hfs9⟩ := hq
  have hR1 := hR.scan hts9 hfs9
  have hF1 : kx_Fc FrD h h1 := kx_Fc.fs hfs9
  have hm := hR1.1
  obtain ⟨k11, k12, k13, k14⟩ := id hR1.2.2.2.1
  have hki1 := tK_le (b := b) (n := n) (i := tE b n i)
  have htp := tP_le (b := b) hin
  have hin1 := hR1.2.2.1
  have hru1 := hR1.2.2.2.2.2.1
  refine kt_aload_n (pc := 13) (kx_dd d_Mo_readMany 6 rfl) rfl rfl ?_
  refine kt_getI (pc := 14) fl_Mo_50 (hm.k 0 rfl) rfl (kx_dd d_Mo_readMany 7 rfl) ?_
  refine kt_iconst (pc := 17) (v := 1) (kx_dd d_Mo_readMany 8 rfl) rfl ?_
  refine kt_icmp_ne (pc := 18) (tgt := 59) (kx_dd d_Mo_readMany 9 rfl) rfl (fun c18 => ?_) (fun c18 => ?_)
  · rw [k12, show (1 : Int32) = nI 1 from rfl, nI_eq (by omega) (by decide)] at c18
    refine y_mw59 b n (tE b n i) r _ _ _ hR1 (by have := bgw_le (tW b n (tE b n i)); omega) (fun q => absurd q c18) (fun q => c18 q.1) _ _ (fun q h' e1 e2 e3 e4 => ⟨q, (mnF_bod hch (by unfold fulP; omega)).trans e1, rfl, _, _, _, WEx.rf, e2, hF1.tr e3, ?_⟩) (fun f h' e1 e2 => ⟨f, (mnF_bod hch (by unfold fulP; omega)).trans e1, e2.up WEx.rf (by have := bgw_le (tW b n (tE b n i)); omega) hF1⟩) _
    have u1 := tW_next hin hc.1 e4.1
    have := bgw_le (tW b n (tE b n i))
    omega
  · rw [k12, show (1 : Int32) = nI 1 from rfl, nI_eq (by omega) (by decide)] at c18
    refine kt_aload_n (pc := 21) (kx_dd d_Mo_readMany 10 rfl) rfl rfl ?_
    refine kt_iconst (pc := 22) (v := 4) (kx_dd d_Mo_readMany 11 rfl) rfl ?_
    refine kt_aload_n (pc := 23) (kx_dd d_Mo_readMany 12 rfl) rfl rfl ?_
    refine kt_aload_n (pc := 24) (kx_dd d_Mo_readMany 13 rfl) rfl rfl ?_
    refine kt_getI (pc := 25) fl_Mo_27 (hm.k 0 rfl) rfl (kx_dd d_Mo_readMany 14 rfl) ?_
    refine kt_aload_n (pc := 28) (kx_dd d_Mo_readMany 15 rfl) rfl rfl ?_
    refine kt_getI (pc := 29) fl_Mo_43 (hm.k 0 rfl) rfl (kx_dd d_Mo_readMany 16 rfl) ?_
    refine kt_invV (pc := 32) (a := 84) (as := [_, _]) (kx_dd d_Mo_readMany 17 rfl) ⟨lk_Mo_81, wi_Mo_wordOf, we_Mo_wordOf⟩ w_Mo_wordOf (hm.k 0 rfl) rfl rfl rfl rfl (Nat.le_of_ble_eq_true rfl) ((by rw [k13, k11]; exact y_wordTok (d := d + 4) b n (tE b n i) _ _ nw T z hR1 (by omega) c18)) (Nat.le_refl _) ⟨Nat.le_refl _, Nat.le_refl _⟩ (fun v h' hq => ?_)
    revert h'
    intro h2 hq
    obtain ⟨j9, rfl, hj1, hj2, hwm, hfw⟩ := hq
    have hwl := tW_lt hR1.2.2.1 c18
    have hR2 := hR1.wa (c := tW b n (tE b n i)) (hR1.nw (by omega)) hwl.1 hwl.2 hwm hfw
    have hF2 : kx_Fc FrD h1 h2 := kx_Fc.fw hfw
    have hm := hR2.1
    refine kt_invV (pc := 35) (a := 84) (as := [_, _]) (kx_dd d_Mo_readMany 18 rfl) ⟨lk_Mo_106, wi_Mo_kindOf, we_Mo_kindOf⟩ w_Mo_kindOf (hm.k 0 rfl) rfl rfl rfl rfl (Nat.le_of_ble_eq_true rfl) (y_kindOf (d := d + 4) hm _ _ hR2.2.2.2.2.2.2.1.1 r ho 4 (by decide) hR2.2.2.2.2.2.1 j9 hj1) (Nat.le_refl _) ⟨Nat.le_refl _, Nat.le_refl _⟩ (fun v h' hq => ?_)
    obtain ⟨rfl, hz8⟩ := hq
    rw [hz8]
    clear hz8
    rw [hj2]
    have hkl : ∀ k, kiF r (tW b n (tE b n i)) = some k → k < ruK r := fun k z => (fnd_lt z).1
    refine kt_istore_ne (pc := 38) (lv' := [_, _, _]) (kx_dd d_Mo_readMany 19 rfl) rfl (Nat.le_of_ble_eq_true rfl) rfl ?_
    refine kt_iload_n (pc := 39) (kx_dd d_Mo_readMany 20 rfl) rfl rfl ?_
    refine kt_iconst (pc := 40) (v := -1) (kx_dd d_Mo_readMany 21 rfl) rfl ?_
    refine kt_icmp_eq (pc := 41) (tgt := 59) (kx_dd d_Mo_readMany 22 rfl) rfl (fun c41 => ?_) (fun c41 => ?_)
    · rw [oI_n (fun k z => by have := hkl k z; omega)] at c41
      refine y_mw59 b n (tE b n i) r _ _ _ hR2 (by have := bgw_le (tW b n (tE b n i)); omega) (fun _ => ⟨j9, hj1, hj2⟩) (fun ⟨_, k, q1, _⟩ => by rw [c41] at q1; cases q1) _ _ (fun q h' e1 e2 e3 e4 => ⟨q, (mnF_bod hch (by unfold fulP; omega)).trans e1, rfl, _, _, _, waF_ex, e2, (hF1.tr hF2).tr e3, ?_⟩) (fun f h' e1 e2 => ⟨f, (mnF_bod hch (by unfold fulP; omega)).trans e1, e2.up waF_ex (by have := bgw_le (tW b n (tE b n i)); omega) (hF1.tr hF2)⟩) _
      have u1 := tW_next hin hc.1 e4.1
      have := bgw_le (tW b n (tE b n i))
      omega
    · rw [oI_n (fun k z => by have := hkl k z; omega)] at c41
      obtain ⟨k9, hk9⟩ := Option.ne_none_iff_exists'.mp c41
      have hk9l := hkl k9 hk9
      rw [show oI (kiF r (tW b n (tE b n i))) = nI k9 by rw [hk9]; rfl]
      refine kt_aload_n (pc := 44) (kx_dd d_Mo_readMany 23 rfl) rfl rfl ?_
      refine kt_getR (pc := 45) (b := 105) fl_Mo_112 (hm.k 0 rfl) rfl (hm.r 20 rfl) (kx_dd d_Mo_readMany 24 rfl) ?_
      refine kt_iload_n (pc := 48) (kx_dd d_Mo_readMany 25 rfl) rfl rfl ?_
      refine kt_zaldn (pc := 49) k9 (hm.t 21 rfl) rfl (by omega) (by decide) (kx_dd d_Mo_readMany 26 rfl) ?_
      refine kt_if_eq (pc := 50) (tgt := 59) (kx_dd d_Mo_readMany 27 rfl) rfl (fun c50 => ?_) (fun c50 => ?_)
      · rw [hR2.2.2.2.2.2.2.2.1 k9 hk9l, bP_0] at c50
        refine y_mw59 b n (tE b n i) r _ _ _ hR2 (by have := bgw_le (tW b n (tE b n i)); omega) (fun _ => ⟨j9, hj1, hj2⟩) (fun ⟨_, k, q1, q2⟩ => by rw [hk9] at q1; cases q1; exact c50 q2) _ _ (fun q h' e1 e2 e3 e4 => ⟨q, (mnF_bod hch (by unfold fulP; omega)).trans e1, rfl, _, _, _, waF_ex, e2, (hF1.tr hF2).tr e3, ?_⟩) (fun f h' e1 e2 => ⟨f, (mnF_bod hch (by unfold fulP; omega)).trans e1, e2.up waF_ex (by have := bgw_le (tW b n (tE b n i)); omega) (hF1.tr hF2)⟩) _
        have u1 := tW_next hin hc.1 e4.1
        have := bgw_le (tW b n (tE b n i))
        omega
      · refine kt_aload_n (pc := 53) (kx_dd d_Mo_readMany 28 rfl) rfl rfl ?_
        refine kt_iconst (pc := 54) (v := 3) (kx_dd d_Mo_readMany 29 rfl) rfl ?_
        refine kt_invV (pc := 55) (a := 84) (as := [_]) (kx_dd d_Mo_readMany 30 rfl) ⟨lk_Mo_73, wi_Mo_wrong, we_Mo_wrong⟩ w_Mo_wrong (hm.k 0 rfl) rfl rfl rfl rfl (Nat.le_of_ble_eq_true rfl) (y_wrong (d := d + 4) hm (nI 3)) (Nat.le_refl _) ⟨Nat.le_refl _, Nat.le_refl _⟩ (fun v h' hq => ?_)
        revert h'
        intro h9 hq
        obtain ⟨rfl, rfl⟩ := hq
        refine kt_athrow (kx_dd d_Mo_readMany 31 rfl) rfl (Nat.le_refl _) (Nat.le_refl _) ?_
        rw [hR2.2.2.2.2.2.2.2.1 k9 hk9l, bP_0, Classical.not_not] at c50
        exact ⟨_, (mnF_bod hch (by unfold fulP; omega)).trans (show wgF b n (tE b n i) r = .inl (3, tP b n (tE b n i)) from if_pos ⟨c18, k9, hk9, c50⟩), (hR2.fau 3).up waF_ex (by unfold bgw; split <;> omega) (hF1.tr hF2)⟩
theorem y_mn {l : Launch} {g : kx_G} {d : Nat} {h : kx_Mem} (b : Nat → Int32) (n i : Nat) (r : RU) (nw : Nat) (T : Nat → Nat) (z : Nat) (hR : RM b n i r (wfl r) nw T z h) (hz9 : z < 1957) (hc : tK b n i = 1 ∧ tW b n i = 464036) : kt_X (l, g, m_Mo_readMany, d + 5, 0, 0, (fun v h' => ∃ q, mnF b n i r = .inr q ∧ v = none ∧ ∃ nw' T' z', WEx nw T nw' T' ∧ RM b n q.2 q.1 (wfl q.1) nw' T' z' h' ∧ kx_Fc FrD h h' ∧ 16 * z' + 3 * i ≤ 16 * z + 3 * q.2 + 3), (fun h' => ∃ f, mnF b n i r = .inl f ∧ ZF f nw T (z + 3) h h'), []) 0 0 99 [some (.ref 84), none, none] [] h := by
  have hm := hR.1
  have hin := hR.2.2.1
  have hki := tK_le (b := b) (n := n) (i := i)
  obtain ⟨k1, k2, k3, k4⟩ := id hR.2.2.2.1
  have ho := hR.2.2.2.2.1
  have o16 := ho.1
  have hn6 := hR.2.1.1.2.1
  have hru := hR.2.2.2.2.2.1
  have e94 : h.1 94 4 = nI (ruN r) := hru.2.2.2.2.1
  have e97 : h.1 97 4 = nI (ruM r).length := hru.2.2.2.2.2.2.1
  have e100 : h.1 100 4 = nI (ruE r).length := hru.2.2.2.2.2.2.2.2.1
  have oN := ho.2.2.1
  have oM := ho.2.2.2.2.1
  have oE := ho.2.2.2.2.2.1
  have hch : chO b n i nm0 = some 11 := chO_of hc.1 hc.2 (by decide)
  have hlen := kwlen (m := 3) hin hc.1 (by rw [hc.2]; decide)
  refine kt_aload_n (pc := 99) (kx_dd d_Mo_readMany 55 rfl) rfl rfl ?_
  refine kt_getR (pc := 100) (b := 94) fl_Mo_94 (hm.k 0 rfl) rfl (hm.r 9 rfl) (kx_dd d_Mo_readMany 56 rfl) ?_
  refine kt_iconst (pc := 103) (v := 4) (kx_dd d_Mo_readMany 57 rfl) rfl ?_
  refine kt_ialdn (pc := 104) 4 (hm.t 10 rfl) rfl (by decide) (by decide) (kx_dd d_Mo_readMany 58 rfl) ?_
  refine kt_bipush (pc := 105) (v := 10) (kx_dd d_Mo_readMany 59 rfl) rfl ?_
  refine kt_icmp_ne (pc := 107) (tgt := 116) (kx_dd d_Mo_readMany 60 rfl) rfl (fun c107 => ?_) (fun c107 => ?_)
  · rw [e94, show (10 : Int32) = nI 10 from rfl, nI_eq (by omega) (by decide)] at c107
    refine kt_aload_n (pc := 116) (kx_dd d_Mo_readMany 65 rfl) rfl rfl ?_
    refine kt_invV (pc := 117) (a := 84) (as := []) (kx_dd d_Mo_readMany 66 rfl) ⟨lk_Mo_77, wi_Mo_scan, we_Mo_scan⟩ w_Mo_scan (hm.k 0 rfl) rfl rfl rfl rfl (Nat.le_of_ble_eq_true rfl) (y_scan (d := d + 3) hR.1 b n (tE b n i) hR.2.1.1 hR.2.1.2 (tE_n hR.2.2.1).1 hR.2.2.2.1.1) (Nat.le_refl _) ⟨Nat.le_refl _, Nat.le_refl _⟩ (fun v h' hq => ?_)
    revert h'
    intro h1 hq
    obtain ⟨rfl, hts9, hfs9⟩ := hq
    have hR1 := hR.scan hts9 hfs9
    have hF1 : kx_Fc FrD h h1 := kx_Fc.fs hfs9
    have hm := hR1.1
    obtain ⟨k11, k12, k13, k14⟩ := id hR1.2.2.2.1
    have hki1 := tK_le (b := b) (n := n) (i := tE b n i)
    have htp := tP_le (b := b) hin
    have hin1 := hR1.2.2.1
    have hru1 := hR1.2.2.2.2.2.1
    refine kt_aload_n (pc := 120) (kx_dd d_Mo_readMany 67 rfl) rfl rfl ?_
    refine kt_getI (pc := 121) fl_Mo_50 (hm.k 0 rfl) rfl (kx_dd d_Mo_readMany 68 rfl) ?_
    refine kt_iconst (pc := 124) (v := 1) (kx_dd d_Mo_readMany 69 rfl) rfl ?_
    refine kt_icmp_eq (pc := 125) (tgt := 134) (kx_dd d_Mo_readMany 70 rfl) rfl (fun c125 => ?_) (fun c125 => ?_)
    · rw [k12, show (1 : Int32) = nI 1 from rfl, nI_eq (by omega) (by decide)] at c125
      refine kt_aload_n (pc := 134) (kx_dd d_Mo_readMany 75 rfl) rfl rfl ?_
      refine kt_aload_n (pc := 135) (kx_dd d_Mo_readMany 76 rfl) rfl rfl ?_
      refine kt_getI (pc := 136) fl_Mo_27 (hm.k 0 rfl) rfl (kx_dd d_Mo_readMany 77 rfl) ?_
      refine kt_aload_n (pc := 139) (kx_dd d_Mo_readMany 78 rfl) rfl rfl ?_
      refine kt_getI (pc := 140) fl_Mo_43 (hm.k 0 rfl) rfl (kx_dd d_Mo_readMany 79 rfl) ?_
      refine kt_invV (pc := 143) (a := 84) (as := [_, _]) (kx_dd d_Mo_readMany 80 rfl) ⟨lk_Mo_81, wi_Mo_wordOf, we_Mo_wordOf⟩ w_Mo_wordOf (hm.k 0 rfl) rfl rfl rfl rfl (Nat.le_of_ble_eq_true rfl) ((by rw [k13, k11]; exact y_wordTok (d := d + 4) b n (tE b n i) _ _ nw T z hR1 (by omega) c125)) (Nat.le_refl _) ⟨Nat.le_refl _, Nat.le_refl _⟩ (fun v h' hq => ?_)
      revert h'
      intro h2 hq
      obtain ⟨j9, rfl, hj1, hj2, hwm, hfw⟩ := hq
      have hwl := tW_lt hR1.2.2.1 c125
      have hR2 := hR1.wa (c := tW b n (tE b n i)) (hR1.nw (by omega)) hwl.1 hwl.2 hwm hfw
      have hF2 : kx_Fc FrD h1 h2 := kx_Fc.fw hfw
      have hm := hR2.1
      refine kt_istore_ne (pc := 146) (lv' := [_, _, _]) (kx_dd d_Mo_readMany 81 rfl) rfl (Nat.le_of_ble_eq_true rfl) rfl ?_
      refine kt_iconst (pc := 147) (v := 0) (kx_dd d_Mo_readMany 82 rfl) rfl ?_
      refine kt_istore_ne (pc := 148) (lv' := [_, _, _]) (kx_dd d_Mo_readMany 83 rfl) rfl (Nat.le_of_ble_eq_true rfl) rfl ?_
      refine y_mn149 b n (tE b n i) r _ _ _ hR2 (by omega) j9 hj1 hj2 c125 _ _ (fun q h' e1 e2 e3 e4 => ⟨q, (mnF_bod hch (by unfold fulP; omega)).trans e1, rfl, _, _, _, waF_ex, e2, (hF1.tr hF2).tr e3, ?_⟩) (fun f h' e1 e2 => ⟨f, (mnF_bod hch (by unfold fulP; omega)).trans e1, e2.up waF_ex (by have := bgw_le (tW b n (tE b n i)); omega) (hF1.tr hF2)⟩) (ruN r) 0 (by omega) (fun x hx => absurd hx (Nat.not_lt_zero x))
      have u1 := tW_next hin hc.1 c125
      have := bgw_le (tW b n (tE b n i))
      omega
    · refine kt_aload_n (pc := 128) (kx_dd d_Mo_readMany 71 rfl) rfl rfl ?_
      refine kt_iconst (pc := 129) (v := 1) (kx_dd d_Mo_readMany 72 rfl) rfl ?_
      refine kt_invV (pc := 130) (a := 84) (as := [_]) (kx_dd d_Mo_readMany 73 rfl) ⟨lk_Mo_73, wi_Mo_wrong, we_Mo_wrong⟩ w_Mo_wrong (hm.k 0 rfl) rfl rfl rfl rfl (Nat.le_of_ble_eq_true rfl) (y_wrong (d := d + 4) hm (nI 1)) (Nat.le_refl _) ⟨Nat.le_refl _, Nat.le_refl _⟩ (fun v h' hq => ?_)
      revert h'
      intro h9 hq
      obtain ⟨rfl, rfl⟩ := hq
      refine kt_athrow (kx_dd d_Mo_readMany 74 rfl) rfl (Nat.le_refl _) (Nat.le_refl _) ?_
      rw [k12, show (1 : Int32) = nI 1 from rfl, nI_eq (by omega) (by decide)] at c125
      exact ⟨_, (mnF_bod hch (by unfold fulP; omega)).trans (show neeF b n (tE b n i) r = .inl (1, tP b n (tE b n i)) from if_neg c125), (hR1.fau 1).up WEx.rf (by omega) hF1⟩
  · refine kt_aload_n (pc := 110) (kx_dd d_Mo_readMany 61 rfl) rfl rfl ?_
    refine kt_iconst (pc := 111) (v := 4) (kx_dd d_Mo_readMany 62 rfl) rfl ?_
    refine kt_invV (pc := 112) (a := 84) (as := [_]) (kx_dd d_Mo_readMany 63 rfl) ⟨lk_Mo_73, wi_Mo_wrong, we_Mo_wrong⟩ w_Mo_wrong (hm.k 0 rfl) rfl rfl rfl rfl (Nat.le_of_ble_eq_true rfl) (y_wrong (d := d + 4) hm (nI 4)) (Nat.le_refl _) ⟨Nat.le_refl _, Nat.le_refl _⟩ (fun v h' hq => ?_)
    revert h'
    intro h9 hq
    obtain ⟨rfl, rfl⟩ := hq
    refine kt_athrow (kx_dd d_Mo_readMany 64 rfl) rfl (Nat.le_refl _) (Nat.le_refl _) ?_
    rw [e94, show (10 : Int32) = nI 10 from rfl, nI_eq (by omega) (by decide)] at c107
    exact ⟨_, mnF_ful hch (by unfold fulP; omega), (hR.fau 4).up WEx.rf (by omega) kx_Fc.rf⟩
theorem y_mm {l : Launch} {g : kx_G} {d : Nat} {h : kx_Mem} (b : Nat → Int32) (n i : Nat) (r : RU) (nw : Nat) (T : Nat → Nat) (z : Nat) (hR : RM b n i r (wfl r) nw T z h) (hz9 : z < 1957) (hc : tK b n i = 1 ∧ tW b n i = 448116) : kt_X (l, g, m_Mo_readMany, d + 5, 0, 0, (fun v h' => ∃ q, mnF b n i r = .inr q ∧ v = none ∧ ∃ nw' T' z', WEx nw T nw' T' ∧ RM b n q.2 q.1 (wfl q.1) nw' T' z' h' ∧ kx_Fc FrD h h' ∧ 16 * z' + 3 * i ≤ 16 * z + 3 * q.2 + 3), (fun h' => ∃ f, mnF b n i r = .inl f ∧ ZF f nw T (z + 3) h h'), []) 0 0 241 [some (.ref 84), none, none] [] h := by
  have hm := hR.1
  have hin := hR.2.2.1
  have hki := tK_le (b := b) (n := n) (i := i)
  obtain ⟨k1, k2, k3, k4⟩ := id hR.2.2.2.1
  have ho := hR.2.2.2.2.1
  have o16 := ho.1
  have hn6 := hR.2.1.1.2.1
  have hru := hR.2.2.2.2.2.1
  have e94 : h.1 94 4 = nI (ruN r) := hru.2.2.2.2.1
  have e97 : h.1 97 4 = nI (ruM r).length := hru.2.2.2.2.2.2.1
  have e100 : h.1 100 4 = nI (ruE r).length := hru.2.2.2.2.2.2.2.2.1
  have oN := ho.2.2.1
  have oM := ho.2.2.2.2.1
  have oE := ho.2.2.2.2.2.1
  have hch : chO b n i nm0 = some 12 := chO_of hc.1 hc.2 (by decide)
  have hlen := kwlen (m := 3) hin hc.1 (by rw [hc.2]; decide)
  refine kt_aload_n (pc := 241) (kx_dd d_Mo_readMany 139 rfl) rfl rfl ?_
  refine kt_getR (pc := 242) (b := 97) fl_Mo_97 (hm.k 0 rfl) rfl (hm.r 12 rfl) (kx_dd d_Mo_readMany 140 rfl) ?_
  refine kt_iconst (pc := 245) (v := 4) (kx_dd d_Mo_readMany 141 rfl) rfl ?_
  refine kt_ialdn (pc := 246) 4 (hm.t 13 rfl) rfl (by decide) (by decide) (kx_dd d_Mo_readMany 142 rfl) ?_
  refine kt_bipush (pc := 247) (v := 10) (kx_dd d_Mo_readMany 143 rfl) rfl ?_
  refine kt_icmp_ne (pc := 249) (tgt := 258) (kx_dd d_Mo_readMany 144 rfl) rfl (fun c249 => ?_) (fun c249 => ?_)
  · rw [e97, show (10 : Int32) = nI 10 from rfl, nI_eq (by omega) (by decide)] at c249
    refine kt_aload_n (pc := 258) (kx_dd d_Mo_readMany 149 rfl) rfl rfl ?_
    refine kt_invV (pc := 259) (a := 84) (as := []) (kx_dd d_Mo_readMany 150 rfl) ⟨lk_Mo_77, wi_Mo_scan, we_Mo_scan⟩ w_Mo_scan (hm.k 0 rfl) rfl rfl rfl rfl (Nat.le_of_ble_eq_true rfl) (y_scan (d := d + 3) hR.1 b n (tE b n i) hR.2.1.1 hR.2.1.2 (tE_n hR.2.2.1).1 hR.2.2.2.1.1) (Nat.le_refl _) ⟨Nat.le_refl _, Nat.le_refl _⟩ (fun v h' hq => ?_)
    revert h'
    intro h1 hq
    obtain ⟨rfl, hts9, hfs9⟩ := hq
    have hR1 := hR.scan hts9 hfs9
    have hF1 : kx_Fc FrD h h1 := kx_Fc.fs hfs9
    have hm := hR1.1
    obtain ⟨k11, k12, k13, k14⟩ := id hR1.2.2.2.1
    have hki1 := tK_le (b := b) (n := n) (i := tE b n i)
    have htp := tP_le (b := b) hin
    have hin1 := hR1.2.2.1
    have hru1 := hR1.2.2.2.2.2.1
    have e97b : h1.1 97 4 = nI (ruM r).length := hru1.2.2.2.2.2.2.1
    refine kt_bipush (pc := 262) (v := 40) (kx_dd d_Mo_readMany 151 rfl) rfl ?_
    refine kt_aload_n (pc := 264) (kx_dd d_Mo_readMany 152 rfl) rfl rfl ?_
    refine kt_getR (pc := 265) (b := 97) fl_Mo_97 (hm.k 0 rfl) rfl (hm.r 12 rfl) (kx_dd d_Mo_readMany 153 rfl) ?_
    refine kt_iconst (pc := 268) (v := 4) (kx_dd d_Mo_readMany 154 rfl) rfl ?_
    refine kt_ialdn (pc := 269) 4 (hm.t 13 rfl) rfl (by decide) (by decide) (kx_dd d_Mo_readMany 155 rfl) ?_
    refine kt_iadd (pc := 270) (kx_dd d_Mo_readMany 156 rfl) ?_
    refine kt_istore_ne (pc := 271) (lv' := [_, _, _]) (kx_dd d_Mo_readMany 157 rfl) rfl (Nat.le_of_ble_eq_true rfl) rfl ?_
    refine kt_aload_n (pc := 272) (kx_dd d_Mo_readMany 158 rfl) rfl rfl ?_
    refine kt_getR (pc := 273) (b := 98) fl_Mo_214 (hm.k 0 rfl) rfl (hm.r 13 rfl) (kx_dd d_Mo_readMany 159 rfl) ?_
    refine kt_iload_n (pc := 276) (kx_dd d_Mo_readMany 160 rfl) rfl rfl ?_
    refine kt_aload_n (pc := 277) (kx_dd d_Mo_readMany 161 rfl) rfl rfl ?_
    refine kt_invT (a := 84) (as := []) (kx_dd d_Mo_readMany 162 rfl) lm_Mo_217 wi_Mo_word we_Mo_word w_Mo_word (hm.k 0 rfl) rfl rfl rfl rfl (Nat.le_of_ble_eq_true rfl) (y_word (d := d + 2) b n (tE b n i) r _ nw T z hR1 (by omega)) (Nat.le_refl _) ⟨Nat.le_refl _, Nat.le_refl _⟩ (fun v h' hq => ?_) (fun h' hz => Or.inl ⟨rfl, (by obtain ⟨f, y1, y2, y3⟩ := hz; subst y2; exact ⟨_, (mnF_bod hch (by unfold fulP; omega)).trans (if_neg y1), y3.up WEx.rf (by omega) hF1⟩)⟩)
    revert h'
    intro h2 hq
    obtain ⟨j9, c1, rfl, hj1, hj2, hR2, hF2⟩ := hq
    have hm := hR2.1
    have hwl := tW_lt hin1 c1
    have u1 := tW_next hin hc.1 c1
    refine kt_iastn (pc := 281) (40 + (ruM r).length) (hm.t 14 rfl) (by decide) (by rw [e97b]; exact nI_add 40 _) (by omega) (by decide) (kx_dd d_Mo_readMany 163 rfl) ?_
    have hf9 : kx_Fc (sprP r) h2 (kx_setI h2 98 (40 + (ruM r).length) (nI j9)) := kx_Fc.set (Or.inr (Or.inl ⟨Or.inl rfl, Nat.le_refl _⟩))
    have hR3 := hR2.spr hf9
    have hm := hR3.1
    have hF3 : kx_Fc FrD h (kx_setI h2 98 (40 + (ruM r).length) (nI j9)) := (hF1.tr hF2).tr (FrD.sp hf9)
    have v1 := bgw_le (tW b n (tE b n i))
    refine kt_aload_n (pc := 282) (kx_dd d_Mo_readMany 164 rfl) rfl rfl ?_
    refine kt_getR (pc := 283) (b := 99) fl_Mo_220 (hm.k 0 rfl) rfl (hm.r 14 rfl) (kx_dd d_Mo_readMany 165 rfl) ?_
    refine kt_iload_n (pc := 286) (kx_dd d_Mo_readMany 166 rfl) rfl rfl ?_
    refine kt_aload_n (pc := 287) (kx_dd d_Mo_readMany 167 rfl) rfl rfl ?_
    refine kt_invT (a := 84) (as := []) (kx_dd d_Mo_readMany 168 rfl) lm_Mo_201 wi_Mo_readKind we_Mo_readKind w_Mo_readKind (hm.k 0 rfl) rfl rfl rfl rfl (Nat.le_of_ble_eq_true rfl) (y_readKind (d := d + 1) b n (tE b n (tE b n i)) r _ _ _ hR3 (by omega)) (Nat.le_refl _) ⟨Nat.le_refl _, Nat.le_refl _⟩ (fun v h' hq => ?_) (fun h' hz => Or.inl ⟨rfl, (by obtain ⟨f, y1, y2⟩ := hz; exact ⟨_, (mnF_bod hch (by unfold fulP; omega)).trans (by show musF b n (tE b n i) r = _; unfold musF; rw [if_pos c1]; simp only [y1]), y2.up waF_ex (by omega) hF3⟩)⟩)
    revert h'
    intro h5 hq
    obtain ⟨q9, hK, rfl, hq9, nw2, T2, eW, hR5, hF5⟩ := hq
    obtain ⟨a1, a2, a3⟩ := kdF_at hK
    have hx5 := waF_exq eW
    have hm := hR5.1
    have eD := kdF_D hK
    have eM : ruM q9.2.1 = ruM r := by unfold ruM; rw [eD]
    have eE : ruE q9.2.1 = ruE r := by unfold ruE; rw [eD]
    have u2 := tW_next hin1 c1 a1
    have v2 := bgw_le (tW b n (tE b n (tE b n i)))
    refine kt_iastn (pc := 291) (40 + (ruM r).length) (hm.t 15 rfl) (by decide) (by rw [e97b]; exact nI_add 40 _) (by omega) (by decide) (kx_dd d_Mo_readMany 169 rfl) ?_
    refine kt_aload_n (pc := 292) (kx_dd d_Mo_readMany 170 rfl) rfl rfl ?_
    refine kt_getR (pc := 293) (b := 97) fl_Mo_97 (hm.k 0 rfl) rfl (hm.r 12 rfl) (kx_dd d_Mo_readMany 171 rfl) ?_
    refine kt_iconst (pc := 296) (v := 4) (kx_dd d_Mo_readMany 172 rfl) rfl ?_
    refine kt_dup2 (pc := 297) (kx_dd d_Mo_readMany 173 rfl) rfl rfl ?_
    refine kt_ialdn (pc := 298) 4 (hm.t 13 rfl) rfl (by decide) (by decide) (kx_dd d_Mo_readMany 174 rfl) ?_
    refine kt_iconst (pc := 299) (v := 1) (kx_dd d_Mo_readMany 175 rfl) rfl ?_
    refine kt_iadd (pc := 300) (kx_dd d_Mo_readMany 176 rfl) ?_
    refine kt_iastn (pc := 301) 4 (hm.t 13 rfl) (by decide) rfl (by decide) (by decide) (kx_dd d_Mo_readMany 177 rfl) ?_
    refine kt_goto (pc := 302) (tgt := 394) (kx_dd d_Mo_readMany 178 rfl) rfl ?_
    refine kt_ofX (kx_vret (pc := 394) rfl (kx_dd d_Mo_readMany 233 rfl) (Nat.le_refl _) (Nat.le_refl _) ?_)
    have hf8 : kx_Fc (sprP q9.2.1) h5 (kx_setI h5 99 (40 + (ruM r).length) (nI q9.1)) := kx_Fc.set (Or.inr (Or.inl ⟨Or.inr rfl, by rw [eM]; exact Nat.le_refl _⟩))
    have hR6 := hR5.spr hf8
    have e98 : (kx_setI h5 99 (40 + (ruM r).length) (nI q9.1)).1 98 (40 + (ruM r).length) = nI j9 := by rw [setI_ne (Or.inl (by decide)), hF5.2 98 _ (by unfold FrK; omega)]; exact setI_at
    have e97c : (kx_setI h5 99 (40 + (ruM r).length) (nI q9.1)).1 97 4 = nI (ruM r).length := by rw [← eM]; exact hR6.2.2.2.2.2.1.2.2.2.2.2.2.1
    rw [e97c, nI_1]
    have hw9 : wdI nw2 T2 (tW b n (tE b n i)) ((kx_setI h5 99 (40 + (ruM r).length) (nI q9.1)).1 98 (40 + (ruM r).length)) := wdI.ex ⟨j9, hj1, hj2, e98⟩ hx5
    have hR7 := hR6.mus (w := tW b n (tE b n i)) (k := q9.1) hwl.2 hq9 (by rw [eM]; omega) (by rw [eM]; exact hw9) (by rw [eM]; exact setI_at)
    rw [eM] at hR7
    refine ⟨(ruDem q9.2.1 (false, tW b n (tE b n i), q9.1, q9.1), q9.2.2), (mnF_bod hch (by unfold fulP; omega)).trans (by show musF b n (tE b n i) r = _; unfold musF; rw [if_pos c1]; simp only [hK]), rfl, _, _, _, waF_ex.tr hx5, hR7, ((hF3.tr (kx_Fc.fk hF5)).tr (FrD.sp hf8)).tr (kx_Fc.set (by unfold FrD; omega)), ?_⟩
    show 16 * (z + bgw (tW b n (tE b n i)) + bgw (tW b n (tE b n (tE b n i)))) + 3 * i ≤ 16 * z + 3 * q9.2.2 + 3
    rw [a2]
    omega
  · refine kt_aload_n (pc := 252) (kx_dd d_Mo_readMany 145 rfl) rfl rfl ?_
    refine kt_iconst (pc := 253) (v := 4) (kx_dd d_Mo_readMany 146 rfl) rfl ?_
    refine kt_invV (pc := 254) (a := 84) (as := [_]) (kx_dd d_Mo_readMany 147 rfl) ⟨lk_Mo_73, wi_Mo_wrong, we_Mo_wrong⟩ w_Mo_wrong (hm.k 0 rfl) rfl rfl rfl rfl (Nat.le_of_ble_eq_true rfl) (y_wrong (d := d + 4) hm (nI 4)) (Nat.le_refl _) ⟨Nat.le_refl _, Nat.le_refl _⟩ (fun v h' hq => ?_)
    revert h'
    intro h9 hq
    obtain ⟨rfl, rfl⟩ := hq
    refine kt_athrow (kx_dd d_Mo_readMany 148 rfl) rfl (Nat.le_refl _) (Nat.le_refl _) ?_
    rw [e97, show (10 : Int32) = nI 10 from rfl, nI_eq (by omega) (by decide)] at c249
    exact ⟨_, mnF_ful hch (by unfold fulP; omega), (hR.fau 4).up WEx.rf (by omega) kx_Fc.rf⟩
theorem y_me {l : Launch} {g : kx_G} {d : Nat} {h : kx_Mem} (b : Nat → Int32) (n i : Nat) (r : RU) (nw : Nat) (T : Nat → Nat) (z : Nat) (hR : RM b n i r (wfl r) nw T z h) (hz9 : z < 1957) (hc : tK b n i = 1 ∧ tW b n i = 177873074) : kt_X (l, g, m_Mo_readMany, d + 5, 0, 0, (fun v h' => ∃ q, mnF b n i r = .inr q ∧ v = none ∧ ∃ nw' T' z', WEx nw T nw' T' ∧ RM b n q.2 q.1 (wfl q.1) nw' T' z' h' ∧ kx_Fc FrD h h' ∧ 16 * z' + 3 * i ≤ 16 * z + 3 * q.2 + 3), (fun h' => ∃ f, mnF b n i r = .inl f ∧ ZF f nw T (z + 3) h h'), []) 0 0 314 [some (.ref 84), none, none] [] h := by
  have hm := hR.1
  have hin := hR.2.2.1
  have hki := tK_le (b := b) (n := n) (i := i)
  obtain ⟨k1, k2, k3, k4⟩ := id hR.2.2.2.1
  have ho := hR.2.2.2.2.1
  have o16 := ho.1
  have hn6 := hR.2.1.1.2.1
  have hru := hR.2.2.2.2.2.1
  have e94 : h.1 94 4 = nI (ruN r) := hru.2.2.2.2.1
  have e97 : h.1 97 4 = nI (ruM r).length := hru.2.2.2.2.2.2.1
  have e100 : h.1 100 4 = nI (ruE r).length := hru.2.2.2.2.2.2.2.2.1
  have oN := ho.2.2.1
  have oM := ho.2.2.2.2.1
  have oE := ho.2.2.2.2.2.1
  have hch : chO b n i nm0 = some 13 := chO_of hc.1 hc.2 (by decide)
  have hlen := kwlen (m := 5) hin hc.1 (by rw [hc.2]; decide)
  refine kt_aload_n (pc := 314) (kx_dd d_Mo_readMany 183 rfl) rfl rfl ?_
  refine kt_getR (pc := 315) (b := 100) fl_Mo_100 (hm.k 0 rfl) rfl (hm.r 15 rfl) (kx_dd d_Mo_readMany 184 rfl) ?_
  refine kt_iconst (pc := 318) (v := 4) (kx_dd d_Mo_readMany 185 rfl) rfl ?_
  refine kt_ialdn (pc := 319) 4 (hm.t 16 rfl) rfl (by decide) (by decide) (kx_dd d_Mo_readMany 186 rfl) ?_
  refine kt_bipush (pc := 320) (v := 10) (kx_dd d_Mo_readMany 187 rfl) rfl ?_
  refine kt_icmp_ne (pc := 322) (tgt := 331) (kx_dd d_Mo_readMany 188 rfl) rfl (fun c322 => ?_) (fun c322 => ?_)
  · rw [e100, show (10 : Int32) = nI 10 from rfl, nI_eq (by omega) (by decide)] at c322
    refine kt_aload_n (pc := 331) (kx_dd d_Mo_readMany 193 rfl) rfl rfl ?_
    refine kt_invV (pc := 332) (a := 84) (as := []) (kx_dd d_Mo_readMany 194 rfl) ⟨lk_Mo_77, wi_Mo_scan, we_Mo_scan⟩ w_Mo_scan (hm.k 0 rfl) rfl rfl rfl rfl (Nat.le_of_ble_eq_true rfl) (y_scan (d := d + 3) hR.1 b n (tE b n i) hR.2.1.1 hR.2.1.2 (tE_n hR.2.2.1).1 hR.2.2.2.1.1) (Nat.le_refl _) ⟨Nat.le_refl _, Nat.le_refl _⟩ (fun v h' hq => ?_)
    revert h'
    intro h1 hq
    obtain ⟨rfl, hts9, hfs9⟩ := hq
    have hR1 := hR.scan hts9 hfs9
    have hF1 : kx_Fc FrD h h1 := kx_Fc.fs hfs9
    have hm := hR1.1
    obtain ⟨k11, k12, k13, k14⟩ := id hR1.2.2.2.1
    have hki1 := tK_le (b := b) (n := n) (i := tE b n i)
    have htp := tP_le (b := b) hin
    have hin1 := hR1.2.2.1
    have hru1 := hR1.2.2.2.2.2.1
    have e100b : h1.1 100 4 = nI (ruE r).length := hru1.2.2.2.2.2.2.2.2.1
    refine kt_bipush (pc := 335) (v := 40) (kx_dd d_Mo_readMany 195 rfl) rfl ?_
    refine kt_aload_n (pc := 337) (kx_dd d_Mo_readMany 196 rfl) rfl rfl ?_
    refine kt_getR (pc := 338) (b := 100) fl_Mo_100 (hm.k 0 rfl) rfl (hm.r 15 rfl) (kx_dd d_Mo_readMany 197 rfl) ?_
    refine kt_iconst (pc := 341) (v := 4) (kx_dd d_Mo_readMany 198 rfl) rfl ?_
    refine kt_ialdn (pc := 342) 4 (hm.t 16 rfl) rfl (by decide) (by decide) (kx_dd d_Mo_readMany 199 rfl) ?_
    refine kt_iadd (pc := 343) (kx_dd d_Mo_readMany 200 rfl) ?_
    refine kt_istore_ne (pc := 344) (lv' := [_, _, _]) (kx_dd d_Mo_readMany 201 rfl) rfl (Nat.le_of_ble_eq_true rfl) rfl ?_
    refine kt_aload_n (pc := 345) (kx_dd d_Mo_readMany 202 rfl) rfl rfl ?_
    refine kt_getR (pc := 346) (b := 101) fl_Mo_225 (hm.k 0 rfl) rfl (hm.r 16 rfl) (kx_dd d_Mo_readMany 203 rfl) ?_
    refine kt_iload_n (pc := 349) (kx_dd d_Mo_readMany 204 rfl) rfl rfl ?_
    refine kt_aload_n (pc := 350) (kx_dd d_Mo_readMany 205 rfl) rfl rfl ?_
    refine kt_invT (a := 84) (as := []) (kx_dd d_Mo_readMany 206 rfl) lm_Mo_217 wi_Mo_word we_Mo_word w_Mo_word (hm.k 0 rfl) rfl rfl rfl rfl (Nat.le_of_ble_eq_true rfl) (y_word (d := d + 2) b n (tE b n i) r _ nw T z hR1 (by omega)) (Nat.le_refl _) ⟨Nat.le_refl _, Nat.le_refl _⟩ (fun v h' hq => ?_) (fun h' hz => Or.inl ⟨rfl, (by obtain ⟨f, y1, y2, y3⟩ := hz; subst y2; exact ⟨_, (mnF_bod hch (by unfold fulP; omega)).trans (if_neg y1), y3.up WEx.rf (by omega) hF1⟩)⟩)
    revert h'
    intro h2 hq
    obtain ⟨j9, c1, rfl, hj1, hj2, hR2, hF2⟩ := hq
    have hm := hR2.1
    have hwl := tW_lt hin1 c1
    have u1 := tW_next hin hc.1 c1
    refine kt_iastn (pc := 354) (40 + (ruE r).length) (hm.t 17 rfl) (by decide) (by rw [e100b]; exact nI_add 40 _) (by omega) (by decide) (kx_dd d_Mo_readMany 207 rfl) ?_
    have hf9 : kx_Fc (sprP r) h2 (kx_setI h2 101 (40 + (ruE r).length) (nI j9)) := kx_Fc.set (Or.inr (Or.inr ⟨Or.inl rfl, Nat.le_refl _⟩))
    have hR3 := hR2.spr hf9
    have hm := hR3.1
    have hF3 : kx_Fc FrD h (kx_setI h2 101 (40 + (ruE r).length) (nI j9)) := (hF1.tr hF2).tr (FrD.sp hf9)
    have v1 := bgw_le (tW b n (tE b n i))
    refine kt_aload_n (pc := 355) (kx_dd d_Mo_readMany 208 rfl) rfl rfl ?_
    refine kt_getR (pc := 356) (b := 102) fl_Mo_228 (hm.k 0 rfl) rfl (hm.r 17 rfl) (kx_dd d_Mo_readMany 209 rfl) ?_
    refine kt_iload_n (pc := 359) (kx_dd d_Mo_readMany 210 rfl) rfl rfl ?_
    refine kt_aload_n (pc := 360) (kx_dd d_Mo_readMany 211 rfl) rfl rfl ?_
    refine kt_invT (a := 84) (as := []) (kx_dd d_Mo_readMany 212 rfl) lm_Mo_201 wi_Mo_readKind we_Mo_readKind w_Mo_readKind (hm.k 0 rfl) rfl rfl rfl rfl (Nat.le_of_ble_eq_true rfl) (y_readKind (d := d + 1) b n (tE b n (tE b n i)) r _ _ _ hR3 (by omega)) (Nat.le_refl _) ⟨Nat.le_refl _, Nat.le_refl _⟩ (fun v h' hq => ?_) (fun h' hz => Or.inl ⟨rfl, (by obtain ⟨f, y1, y2⟩ := hz; exact ⟨_, (mnF_bod hch (by unfold fulP; omega)).trans (by show eitF b n (tE b n i) r = _; unfold eitF; rw [if_pos c1]; simp only [y1]), y2.up waF_ex (by omega) hF3⟩)⟩)
    revert h'
    intro h5 hq
    obtain ⟨q9, hK, rfl, hq9, nw2, T2, eW, hR5, hF5⟩ := hq
    obtain ⟨a1, a2, a3⟩ := kdF_at hK
    have hx5 := waF_exq eW
    have hm := hR5.1
    have eD := kdF_D hK
    have eM : ruM q9.2.1 = ruM r := by unfold ruM; rw [eD]
    have eE : ruE q9.2.1 = ruE r := by unfold ruE; rw [eD]
    have u2 := tW_next hin1 c1 a1
    have v2 := bgw_le (tW b n (tE b n (tE b n i)))
    refine kt_iastn (pc := 364) (40 + (ruE r).length) (hm.t 18 rfl) (by decide) (by rw [e100b]; exact nI_add 40 _) (by omega) (by decide) (kx_dd d_Mo_readMany 213 rfl) ?_
    have hf8 : kx_Fc (sprP q9.2.1) h5 (kx_setI h5 102 (40 + (ruE r).length) (nI q9.1)) := kx_Fc.set (Or.inr (Or.inr ⟨Or.inr (Or.inl rfl), by rw [eE]; exact Nat.le_refl _⟩))
    have hR6 := hR5.spr hf8
    have hm := hR6.1
    have hF6 : kx_Fc FrD h (kx_setI h5 102 (40 + (ruE r).length) (nI q9.1)) := (hF3.tr (kx_Fc.fk hF5)).tr (FrD.sp hf8)
    have e101 : (kx_setI h5 102 (40 + (ruE r).length) (nI q9.1)).1 101 (40 + (ruE r).length) = nI j9 := by rw [setI_ne (Or.inl (by decide)), hF5.2 101 _ (by unfold FrK; omega)]; exact setI_at
    have e102 : (kx_setI h5 102 (40 + (ruE r).length) (nI q9.1)).1 102 (40 + (ruE r).length) = nI q9.1 := setI_at
    refine kt_aload_n (pc := 365) (kx_dd d_Mo_readMany 214 rfl) rfl rfl ?_
    refine kt_getR (pc := 366) (b := 103) fl_Mo_231 (hm.k 0 rfl) rfl (hm.r 18 rfl) (kx_dd d_Mo_readMany 215 rfl) ?_
    refine kt_iload_n (pc := 369) (kx_dd d_Mo_readMany 216 rfl) rfl rfl ?_
    refine kt_aload_n (pc := 370) (kx_dd d_Mo_readMany 217 rfl) rfl rfl ?_
    refine kt_invT (a := 84) (as := []) (kx_dd d_Mo_readMany 218 rfl) lm_Mo_201 wi_Mo_readKind we_Mo_readKind w_Mo_readKind (hm.k 0 rfl) rfl rfl rfl rfl (Nat.le_of_ble_eq_true rfl) (y_readKind (d := d + 1) b n q9.2.2 q9.2.1 _ _ _ hR6 (by omega)) (Nat.le_refl _) ⟨Nat.le_refl _, Nat.le_refl _⟩ (fun v h' hq => ?_) (fun h' hz => Or.inl ⟨rfl, (by obtain ⟨f, y1, y2⟩ := hz; exact ⟨_, (mnF_bod hch (by unfold fulP; omega)).trans (by show eitF b n (tE b n i) r = _; unfold eitF; rw [if_pos c1]; simp only [hK, y1]), y2.up (waF_ex.tr hx5) (by omega) hF6⟩)⟩)
    revert h'
    intro h7 hq
    obtain ⟨x9, hK2, rfl, hx9, nw3, T3, eW2, hR7, hF7⟩ := hq
    obtain ⟨b1, b2, b3⟩ := kdF_at hK2
    have hx7 := waF_exq eW2
    have hm := hR7.1
    have eD2 := kdF_D hK2
    have eE2 : ruE x9.2.1 = ruE r := by rw [← eE]; unfold ruE; rw [eD2]
    rw [a2] at b1
    have u3 := tW_next hR3.2.2.1 a1 b1
    have v3 := bgw_le (tW b n (tE b n (tE b n (tE b n i))))
    have hk7 : ruK q9.2.1 ≤ ruK x9.2.1 := by rcases b3 with e | e; exact Nat.le_of_eq (by rw [e]); rw [e]; exact Nat.le_succ _
    refine kt_iastn (pc := 374) (40 + (ruE r).length) (hm.t 19 rfl) (by decide) (by rw [e100b]; exact nI_add 40 _) (by omega) (by decide) (kx_dd d_Mo_readMany 219 rfl) ?_
    refine kt_aload_n (pc := 375) (kx_dd d_Mo_readMany 220 rfl) rfl rfl ?_
    refine kt_getR (pc := 376) (b := 100) fl_Mo_100 (hm.k 0 rfl) rfl (hm.r 15 rfl) (kx_dd d_Mo_readMany 221 rfl) ?_
    refine kt_iconst (pc := 379) (v := 4) (kx_dd d_Mo_readMany 222 rfl) rfl ?_
    refine kt_dup2 (pc := 380) (kx_dd d_Mo_readMany 223 rfl) rfl rfl ?_
    refine kt_ialdn (pc := 381) 4 (hm.t 16 rfl) rfl (by decide) (by decide) (kx_dd d_Mo_readMany 224 rfl) ?_
    refine kt_iconst (pc := 382) (v := 1) (kx_dd d_Mo_readMany 225 rfl) rfl ?_
    refine kt_iadd (pc := 383) (kx_dd d_Mo_readMany 226 rfl) ?_
    refine kt_iastn (pc := 384) 4 (hm.t 16 rfl) (by decide) rfl (by decide) (by decide) (kx_dd d_Mo_readMany 227 rfl) ?_
    refine kt_goto (pc := 385) (tgt := 394) (kx_dd d_Mo_readMany 228 rfl) rfl ?_
    refine kt_ofX (kx_vret (pc := 394) rfl (kx_dd d_Mo_readMany 233 rfl) (Nat.le_refl _) (Nat.le_refl _) ?_)
    have hf7 : kx_Fc (sprP x9.2.1) h7 (kx_setI h7 103 (40 + (ruE r).length) (nI x9.1)) := kx_Fc.set (Or.inr (Or.inr ⟨Or.inr (Or.inr rfl), by rw [eE2]; exact Nat.le_refl _⟩))
    have hR8 := hR7.spr hf7
    have e101c : (kx_setI h7 103 (40 + (ruE r).length) (nI x9.1)).1 101 (40 + (ruE r).length) = nI j9 := by rw [setI_ne (Or.inl (by decide)), hF7.2 101 _ (by unfold FrK; omega)]; exact e101
    have e102c : (kx_setI h7 103 (40 + (ruE r).length) (nI x9.1)).1 102 (40 + (ruE r).length) = nI q9.1 := by rw [setI_ne (Or.inl (by decide)), hF7.2 102 _ (by unfold FrK; omega)]; exact e102
    have e100c : (kx_setI h7 103 (40 + (ruE r).length) (nI x9.1)).1 100 4 = nI (ruE r).length := by rw [← eE2]; exact hR8.2.2.2.2.2.1.2.2.2.2.2.2.2.2.1
    rw [e100c, nI_1]
    have hw9 : wdI nw3 T3 (tW b n (tE b n i)) ((kx_setI h7 103 (40 + (ruE r).length) (nI x9.1)).1 101 (40 + (ruE r).length)) := wdI.ex ⟨j9, hj1, hj2, e101c⟩ (hx5.tr hx7)
    have hR9 := hR8.eit (w := tW b n (tE b n i)) (k := q9.1) (k2 := x9.1) hwl.2 (by omega) hx9 (by rw [eE2]; omega) (by rw [eE2]; exact hw9) (by rw [eE2]; exact e102c) (by rw [eE2]; exact setI_at)
    rw [eE2] at hR9
    refine ⟨(ruDem x9.2.1 (true, tW b n (tE b n i), q9.1, x9.1), x9.2.2), (mnF_bod hch (by unfold fulP; omega)).trans (by show eitF b n (tE b n i) r = _; unfold eitF; rw [if_pos c1]; simp only [hK, hK2]), rfl, _, _, _, (waF_ex.tr hx5).tr hx7, hR9, ((hF6.tr (kx_Fc.fk hF7)).tr (FrD.sp hf7)).tr (kx_Fc.set (by unfold FrD; omega)), ?_⟩
    show 16 * (z + bgw (tW b n (tE b n i)) + bgw (tW b n (tE b n (tE b n i))) + bgw (tW b n q9.2.2)) + 3 * i ≤ 16 * z + 3 * x9.2.2 + 3
    rw [b2, a2]
    omega
  · refine kt_aload_n (pc := 325) (kx_dd d_Mo_readMany 189 rfl) rfl rfl ?_
    refine kt_iconst (pc := 326) (v := 4) (kx_dd d_Mo_readMany 190 rfl) rfl ?_
    refine kt_invV (pc := 327) (a := 84) (as := [_]) (kx_dd d_Mo_readMany 191 rfl) ⟨lk_Mo_73, wi_Mo_wrong, we_Mo_wrong⟩ w_Mo_wrong (hm.k 0 rfl) rfl rfl rfl rfl (Nat.le_of_ble_eq_true rfl) (y_wrong (d := d + 4) hm (nI 4)) (Nat.le_refl _) ⟨Nat.le_refl _, Nat.le_refl _⟩ (fun v h' hq => ?_)
    revert h'
    intro h9 hq
    obtain ⟨rfl, rfl⟩ := hq
    refine kt_athrow (kx_dd d_Mo_readMany 192 rfl) rfl (Nat.le_refl _) (Nat.le_refl _) ?_
    rw [e100, show (10 : Int32) = nI 10 from rfl, nI_eq (by omega) (by decide)] at c322
    exact ⟨_, mnF_ful hch (by unfold fulP; omega), (hR.fau 4).up WEx.rf (by omega) kx_Fc.rf⟩
theorem y_readMany {l : Launch} {g : kx_G} {d : Nat} {h : kx_Mem} (b : Nat → Int32) (n i : Nat) (r : RU) (nw : Nat) (T : Nat → Nat) (z : Nat) (hR : RM b n i r (wfl r) nw T z h) (hz9 : z < 1957) (hon : onO (chO b n i nm0) = -1) : kt_Sp l g m_Mo_readMany [.ref 84] h (d + 5) 0 0 (fun v h' => ∃ q, mnF b n i r = .inr q ∧ v = none ∧ ∃ nw' T' z', WEx nw T nw' T' ∧ RM b n q.2 q.1 (wfl q.1) nw' T' z' h' ∧ kx_Fc FrD h h' ∧ 16 * z' + 3 * i ≤ 16 * z + 3 * q.2 + 3) (fun h' => ∃ f, mnF b n i r = .inl f ∧ ZF f nw T (z + 3) h h') := by
  have hm := hR.1
  have hin := hR.2.2.1
  have hki := tK_le (b := b) (n := n) (i := i)
  obtain ⟨k1, k2, k3, k4⟩ := id hR.2.2.2.1
  have ho := hR.2.2.2.2.1
  have o16 := ho.1
  have hn6 := hR.2.1.1.2.1
  refine kt_enter (lv := [_, _, _]) (by decide +kernel) (Nat.le_of_ble_eq_true rfl) rfl ?_
  refine kt_aload_n (pc := 0) (kx_dd d_Mo_readMany 0 rfl) rfl rfl ?_
  refine kt_ldcS (pc := 1) (k := 26) rfl rfl ks_26 (kx_dd d_Mo_readMany 1 rfl) ?_
  refine kt_invV (pc := 3) (a := 84) (as := [_]) (kx_dd d_Mo_readMany 2 rfl) ⟨lk_Mo_118, wi_Mo_is, we_Mo_is⟩ w_Mo_is (hm.k 0 rfl) rfl rfl rfl rfl (Nat.le_of_ble_eq_true rfl) (y_is (d := d) hm b n i hR.2.1.1 hin hR.2.2.2.1 (k := 26) (bs := [119, 101, 105, 103, 104]) rfl il_26) (Nat.le_refl _) ⟨Nat.le_refl _, Nat.le_refl _⟩ (fun v h' hq => ?_)
  obtain ⟨rfl, he⟩ := hq
  rw [he]
  clear he
  refine kt_if_eq (pc := 6) (tgt := 90) (kx_dd d_Mo_readMany 3 rfl) rfl (fun c6 => ?_) (fun c6 => ?_)
  · refine kt_aload_n (pc := 90) (kx_dd d_Mo_readMany 51 rfl) rfl rfl ?_
    refine kt_ldcS (pc := 91) (k := 27) rfl rfl ks_27 (kx_dd d_Mo_readMany 52 rfl) ?_
    refine kt_invV (pc := 93) (a := 84) (as := [_]) (kx_dd d_Mo_readMany 53 rfl) ⟨lk_Mo_118, wi_Mo_is, we_Mo_is⟩ w_Mo_is (hm.k 0 rfl) rfl rfl rfl rfl (Nat.le_of_ble_eq_true rfl) (y_is (d := d) hm b n i hR.2.1.1 hin hR.2.2.2.1 (k := 27) (bs := [110, 101, 101, 100]) rfl il_27) (Nat.le_refl _) ⟨Nat.le_refl _, Nat.le_refl _⟩ (fun v h' hq => ?_)
    obtain ⟨rfl, he⟩ := hq
    rw [he]
    clear he
    refine kt_if_eq (pc := 96) (tgt := 232) (kx_dd d_Mo_readMany 54 rfl) rfl (fun c96 => ?_) (fun c96 => ?_)
    · refine kt_aload_n (pc := 232) (kx_dd d_Mo_readMany 135 rfl) rfl rfl ?_
      refine kt_ldcS (pc := 233) (k := 28) rfl rfl ks_28 (kx_dd d_Mo_readMany 136 rfl) ?_
      refine kt_invV (pc := 235) (a := 84) (as := [_]) (kx_dd d_Mo_readMany 137 rfl) ⟨lk_Mo_118, wi_Mo_is, we_Mo_is⟩ w_Mo_is (hm.k 0 rfl) rfl rfl rfl rfl (Nat.le_of_ble_eq_true rfl) (y_is (d := d) hm b n i hR.2.1.1 hin hR.2.2.2.1 (k := 28) (bs := [109, 117, 115, 116]) rfl il_28) (Nat.le_refl _) ⟨Nat.le_refl _, Nat.le_refl _⟩ (fun v h' hq => ?_)
      obtain ⟨rfl, he⟩ := hq
      rw [he]
      clear he
      refine kt_if_eq (pc := 238) (tgt := 305) (kx_dd d_Mo_readMany 138 rfl) rfl (fun c238 => ?_) (fun c238 => ?_)
      · refine kt_aload_n (pc := 305) (kx_dd d_Mo_readMany 179 rfl) rfl rfl ?_
        refine kt_ldcS (pc := 306) (k := 29) rfl rfl ks_29 (kx_dd d_Mo_readMany 180 rfl) ?_
        refine kt_invV (pc := 308) (a := 84) (as := [_]) (kx_dd d_Mo_readMany 181 rfl) ⟨lk_Mo_118, wi_Mo_is, we_Mo_is⟩ w_Mo_is (hm.k 0 rfl) rfl rfl rfl rfl (Nat.le_of_ble_eq_true rfl) (y_is (d := d) hm b n i hR.2.1.1 hin hR.2.2.2.1 (k := 29) (bs := [101, 105, 116, 104, 101, 114]) rfl il_29) (Nat.le_refl _) ⟨Nat.le_refl _, Nat.le_refl _⟩ (fun v h' hq => ?_)
        obtain ⟨rfl, he⟩ := hq
        rw [he]
        clear he
        refine kt_if_eq (pc := 311) (tgt := 388) (kx_dd d_Mo_readMany 182 rfl) rfl (fun c311 => ?_) (fun c311 => ?_)
        · refine kt_aload_n (pc := 388) (kx_dd d_Mo_readMany 229 rfl) rfl rfl ?_
          refine kt_iconst (pc := 389) (v := 1) (kx_dd d_Mo_readMany 230 rfl) rfl ?_
          refine kt_invV (pc := 390) (a := 84) (as := [_]) (kx_dd d_Mo_readMany 231 rfl) ⟨lk_Mo_73, wi_Mo_wrong, we_Mo_wrong⟩ w_Mo_wrong (hm.k 0 rfl) rfl rfl rfl rfl (Nat.le_of_ble_eq_true rfl) (y_wrong (d := d + 4) hm (nI 1)) (Nat.le_refl _) ⟨Nat.le_refl _, Nat.le_refl _⟩ (fun v h' hq => ?_)
          revert h'
          intro h9 hq
          obtain ⟨rfl, rfl⟩ := hq
          refine kt_athrow (kx_dd d_Mo_readMany 232 rfl) rfl (Nat.le_refl _) (Nat.le_refl _) ?_
          rw [bP_0, iw_26 hin] at c6
          rw [bP_0, iw_27 hin] at c96
          rw [bP_0, iw_28 hin] at c238
          rw [bP_0, iw_29 hin] at c311
          have hch : chO b n i nm0 = none := by
            cases hch : chO b n i nm0 with
            | none => rfl
            | some c =>
              obtain ⟨h1, h2⟩ := chO_get hch
              have hc := (chO_lt hch).2
              rw [hch] at hon
              match c, hc with
              | 0, _ => exact absurd hon (by decide)
              | 1, _ => exact absurd hon (by decide)
              | 2, _ => exact absurd hon (by decide)
              | 3, _ => exact absurd hon (by decide)
              | 4, _ => exact absurd hon (by decide)
              | 5, _ => exact absurd hon (by decide)
              | 6, _ => exact absurd hon (by decide)
              | 7, _ => exact absurd hon (by decide)
              | 8, _ => exact absurd hon (by decide)
              | 9, _ => exact absurd hon (by decide)
              | 10, _ => exact absurd ⟨h1, (Option.some.inj h2).symm⟩ c6
              | 11, _ => exact absurd ⟨h1, (Option.some.inj h2).symm⟩ c96
              | 12, _ => exact absurd ⟨h1, (Option.some.inj h2).symm⟩ c238
              | 13, _ => exact absurd ⟨h1, (Option.some.inj h2).symm⟩ c311
              | m + 14, hc => exact absurd hc (by have : nm0.length = 14 := rfl; omega)
          exact ⟨_, (show mnF b n i r = .inl (1, tP b n i) by unfold mnF; rw [hch]), (hR.fau 1).up WEx.rf (by omega) kx_Fc.rf⟩
        · rw [bP_0, Classical.not_not, iw_29 hin] at c311
          exact y_me b n i r nw T z hR hz9 c311
      · rw [bP_0, Classical.not_not, iw_28 hin] at c238
        exact y_mm b n i r nw T z hR hz9 c238
    · rw [bP_0, Classical.not_not, iw_27 hin] at c96
      exact y_mn b n i r nw T z hR hz9 c96
  · rw [bP_0, Classical.not_not, iw_26 hin] at c6
    exact y_mw b n i r nw T z hR hz9 c6
