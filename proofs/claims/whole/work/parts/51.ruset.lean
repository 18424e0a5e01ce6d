/-! the class: Rules written -/
def r0S (j : Nat) : Int32 := ([1999, 0, 1999, 2, 0, 0, 1, -1, 0, 0, 100] : List Int32).getD j 0
/-- plain rules -/
def ru0 : RU := (r0S, fun k => k, 0, fun _ => 0, fun _ => 0, 0, fun _ => 0, fun _ => 0, [])
def ruSet (r : RU) (j : Nat) (x : Int32) : RU := (upF (ruS r) j x, r.2)
def ruOrd (r : RU) (O : Nat → Nat) : RU := (ruS r, O, r.2.2)
def ruKin (r : RU) (w : Nat) : RU := (ruS r, ruO r, ruK r + 1, upF (ruKW r) (ruK r) w, upF (ruWT r) (ruK r) 0, r.2.2.2.2.2)
def ruWei (r : RU) (k x : Nat) : RU := (ruS r, ruO r, ruK r, ruKW r, upF (ruWT r) k x, r.2.2.2.2.2)
def ruNee (r : RU) (w x : Nat) : RU := (ruS r, ruO r, ruK r, ruKW r, ruWT r, ruN r + 1, upF (ruNW r) (ruN r) w, upF (ruNP r) (ruN r) x, ruD r)
def ruDem (r : RU) (x : Bool × Nat × Nat × Nat) : RU := (ruS r, ruO r, ruK r, ruKW r, ruWT r, ruN r, ruNW r, ruNP r, ruD r ++ [x])
theorem ruM_dem (r : RU) (x : Bool × Nat × Nat × Nat) : (ruM (ruDem r x)).length = (ruM r).length + (if x.1 then 0 else 1) := by
  obtain ⟨t, y⟩ := x
  cases t <;> simp [ruM, ruDem, ruD]
theorem ruE_dem (r : RU) (x : Bool × Nat × Nat × Nat) : (ruE (ruDem r x)).length = (ruE r).length + (if x.1 then 1 else 0) := by
  obtain ⟨t, y⟩ := x
  cases t <;> simp [ruE, ruDem, ruD]
def FrU (a b j : Nat) : Prop := a ≤ b ∧ b ≤ a + 8 ∧ j < 1000
theorem RUok.set {r : RU} (ho : RUok r) (j : Nat) (x : Int32) : RUok (ruSet r j x) := ho
theorem RUok.kin {r : RU} (ho : RUok r) {w : Nat} (hw : w < 2 ^ 60) (hk : ruK r < 16) : RUok (ruKin r w) := by
  obtain ⟨h1, h2, h3, h4, h5, h6, h7, h8⟩ := ho
  refine ⟨by show ruK r + 1 ≤ 16; omega, fun k hk => ?_, h3, h4, h5, h6, fun x hx => ?_, h8⟩
  · have hk' : k < ruK r + 1 := hk
    show upF (ruKW r) (ruK r) w k < _ ∧ upF (ruWT r) (ruK r) 0 k ≤ _
    unfold upF
    by_cases e : k = ruK r
    · rw [if_pos e, if_pos e]; omega
    · rw [if_neg e, if_neg e]; exact h2 k (by omega)
  · obtain ⟨a1, a2, a3, a4⟩ := h7 x hx
    exact ⟨a1, by show _ < ruK r + 1; omega, by show _ < ruK r + 1; omega, a4⟩
theorem RUok.wei {r : RU} (ho : RUok r) {k x : Nat} (hx : x ≤ 99) : RUok (ruWei r k x) := by
  obtain ⟨h1, h2, h3, h4, h5, h6, h7, h8⟩ := ho
  refine ⟨h1, fun j hj => ⟨(h2 j hj).1, ?_⟩, h3, h4, h5, h6, h7, h8⟩
  show upF (ruWT r) k x j ≤ 99
  unfold upF
  split
  · exact hx
  · exact (h2 j hj).2
theorem RUok.nee {r : RU} (ho : RUok r) {w x : Nat} (hw : w < 2 ^ 60) (hx : x ≤ 999) (hn : ruN r < 10) : RUok (ruNee r w x) := by
  obtain ⟨h1, h2, h3, h4, h5, h6, h7, h8⟩ := ho
  refine ⟨h1, h2, by show ruN r + 1 ≤ 10; omega, fun k hk => ?_, h5, h6, h7, h8⟩
  have hk' : k < ruN r + 1 := hk
  show upF (ruNW r) (ruN r) w k < _ ∧ upF (ruNP r) (ruN r) x k ≤ _
  unfold upF
  by_cases e : k = ruN r
  · rw [if_pos e, if_pos e]; omega
  · rw [if_neg e, if_neg e]; exact h4 k (by omega)
theorem RUok.dem {r : RU} (ho : RUok r) {x : Bool × Nat × Nat × Nat} (h1 : x.2.1 < 2 ^ 60) (h2 : x.2.2.1 < ruK r) (h3 : x.2.2.2 < ruK r) (h4 : x.1 = false → x.2.2.1 = x.2.2.2) (hm : x.1 = false → (ruM r).length < 10) (he : x.1 = true → (ruE r).length < 10) : RUok (ruDem r x) := by
  obtain ⟨a1, a2, a3, a4, a5, a6, a7, a8⟩ := ho
  refine ⟨a1, a2, a3, a4, ?_, ?_, fun y hy => ?_, a8⟩
  · rw [ruM_dem]
    cases hx : x.1 with
    | false => have := hm hx; simp; omega
    | true => simpa using a5
  · rw [ruE_dem]
    cases hx : x.1 with
    | false => simpa using a6
    | true => have := he hx; simp; omega
  · rcases List.mem_append.mp hy with q | q
    · exact a7 y q
    · rw [List.mem_singleton.mp q]
      exact ⟨h1, h2, h3, h4⟩
theorem RUok.ord {r : RU} (ho : RUok r) {O : Nat → Nat} (h : ∀ k, k < 4 → O k < 4) : RUok (ruOrd r O) := ⟨ho.1, ho.2.1, ho.2.2.1, ho.2.2.2.1, ho.2.2.2.2.1, ho.2.2.2.2.2.1, ho.2.2.2.2.2.2.1, h⟩
theorem ru0_ok : RUok ru0 := ⟨by decide, fun k hk => absurd hk (Nat.not_lt_zero k), by decide, fun k hk => absurd hk (Nat.not_lt_zero k), by decide, by decide, fun x hx => absurd hx List.not_mem_nil, fun k hk => hk⟩
theorem RUc.set {r : RU} {a j : Nat} {x : Int32} {h : kx_Mem} (hp : RUc r a h) : RUc (ruSet r j x) a (kx_setI h (a + 1) j x) := by
  obtain ⟨h1, h2, h3, h4, h5, h6, h7, h8, h9⟩ := hp
  have e : ∀ b k, b ≠ a + 1 → (kx_setI h (a + 1) j x).1 b k = h.1 b k := fun b k hb => setI_ne (Or.inl hb)
  refine ⟨fun k hk => ?_, fun k hk => by rw [e _ _ (by omega)]; exact h2 k hk, by rw [e _ _ (by omega)]; exact h3, fun k hk => ⟨(h4 k hk).1, by rw [e _ _ (by omega)]; exact (h4 k hk).2⟩, by rw [e _ _ (by omega)]; exact h5, fun k hk => ⟨(h6 k hk).1, by rw [e _ _ (by omega)]; exact (h6 k hk).2⟩, by rw [e _ _ (by omega)]; exact h7, by rw [e _ _ (by omega)]; exact h8, fun i y hy => ⟨(h9 i y hy).1, by rw [e _ _ (by omega)]; exact (h9 i y hy).2⟩⟩
  show _ = upF (ruS r) j x k
  unfold upF
  by_cases ek : k = j
  · rw [if_pos ek, ek]; exact setI_at
  · rw [if_neg ek, setI_ne (Or.inr ek)]; exact h1 k hk
theorem RUc.wei {r : RU} {a k x : Nat} {h : kx_Mem} (hp : RUc r a h) : RUc (ruWei r k x) a (kx_setI h (a + 4) k (nI x)) := by
  obtain ⟨h1, h2, h3, h4, h5, h6, h7, h8, h9⟩ := hp
  have e : ∀ b i, b ≠ a + 4 → (kx_setI h (a + 4) k (nI x)).1 b i = h.1 b i := fun b i hb => setI_ne (Or.inl hb)
  refine ⟨fun k hk => by rw [e _ _ (by omega)]; exact h1 k hk, fun k hk => by rw [e _ _ (by omega)]; exact h2 k hk, by rw [e _ _ (by omega)]; exact h3, fun q hq => ⟨(h4 q hq).1, ?_⟩, by rw [e _ _ (by omega)]; exact h5, fun k hk => ⟨(h6 k hk).1, by rw [e _ _ (by omega)]; exact (h6 k hk).2⟩, by rw [e _ _ (by omega)]; exact h7, by rw [e _ _ (by omega)]; exact h8, fun i y hy => ⟨(h9 i y hy).1, by rw [e _ _ (by omega)]; exact (h9 i y hy).2⟩⟩
  show _ = nI (upF (ruWT r) k x q)
  unfold upF
  by_cases ek : q = k
  · rw [if_pos ek, ek]; exact setI_at
  · rw [if_neg ek, setI_ne (Or.inr ek)]; exact (h4 q hq).2
theorem setL_at {h : kx_Mem} {a j : Nat} {v : Int64} : (kx_setL h a j v).2.1 a j = v := by simp [kx_setL, kx_up]
theorem setL_ne {h : kx_Mem} {a j b k : Nat} {v : Int64} (hn : b ≠ a ∨ k ≠ j) : (kx_setL h a j v).2.1 b k = h.2.1 b k := by
  show kx_up h.2.1 a j v b k = _
  unfold kx_up
  split
  next e => rw [if_neg (fun z => by rcases hn with q | q; exact q e; exact q z)]
  next => rfl
theorem RUc.kin {r : RU} {a w : Nat} {h : kx_Mem} (hp : RUc r a h) : RUc (ruKin r w) a (kx_setI (kx_setI (kx_setL h (a + 3) (ruK r) (lN w)) (a + 4) (ruK r) 0) a 2 (nI (ruK r + 1))) := by
  obtain ⟨h1, h2, h3, h4, h5, h6, h7, h8, h9⟩ := hp
  have e : ∀ b i, (b ≠ a ∨ i ≠ 2) → (b ≠ a + 4 ∨ i ≠ ruK r) → (kx_setI (kx_setI (kx_setL h (a + 3) (ruK r) (lN w)) (a + 4) (ruK r) 0) a 2 (nI (ruK r + 1))).1 b i = h.1 b i := fun b i q1 q2 => by rw [setI_ne q1, setI_ne q2]; rfl
  have eL : ∀ b i, (b ≠ a + 3 ∨ i ≠ ruK r) → (kx_setI (kx_setI (kx_setL h (a + 3) (ruK r) (lN w)) (a + 4) (ruK r) 0) a 2 (nI (ruK r + 1))).2.1 b i = h.2.1 b i := fun b i q => setL_ne q
  refine ⟨fun k hk => by rw [e _ _ (by omega) (by omega)]; exact h1 k hk, fun k hk => by rw [e _ _ (by omega) (by omega)]; exact h2 k hk, setI_at, fun k hk => ?_, by rw [e _ _ (by omega) (by omega)]; exact h5, fun k hk => ⟨by rw [eL _ _ (by omega)]; exact (h6 k hk).1, by rw [e _ _ (by omega) (by omega)]; exact (h6 k hk).2⟩, by rw [e _ _ (by omega) (by omega)]; exact h7, by rw [e _ _ (by omega) (by omega)]; exact h8, fun i y hy => ⟨by rw [eL _ _ (by omega)]; exact (h9 i y hy).1, by rw [e _ _ (by omega) (by omega)]; exact (h9 i y hy).2⟩⟩
  have hk' : k < ruK r + 1 := hk
  show _ = lN (upF (ruKW r) (ruK r) w k) ∧ _ = nI (upF (ruWT r) (ruK r) 0 k)
  unfold upF
  by_cases ek : k = ruK r
  · rw [if_pos ek, if_pos ek, ek]
    exact ⟨setL_at, by rw [setI_ne (Or.inl (by omega))]; exact setI_at⟩
  · rw [if_neg ek, if_neg ek, eL _ _ (Or.inr ek), e _ _ (Or.inl (by omega)) (Or.inr ek)]
    exact h4 k (by omega)
theorem RUc.nee {r : RU} {a w x : Nat} {h : kx_Mem} (hp : RUc r a h) : RUc (ruNee r w x) a (kx_setI (kx_setI (kx_setL h (a + 5) (ruN r) (lN w)) (a + 6) (ruN r) (nI x)) a 5 (nI (ruN r + 1))) := by
  obtain ⟨h1, h2, h3, h4, h5, h6, h7, h8, h9⟩ := hp
  have e : ∀ b i, (b ≠ a ∨ i ≠ 5) → (b ≠ a + 6 ∨ i ≠ ruN r) → (kx_setI (kx_setI (kx_setL h (a + 5) (ruN r) (lN w)) (a + 6) (ruN r) (nI x)) a 5 (nI (ruN r + 1))).1 b i = h.1 b i := fun b i q1 q2 => by rw [setI_ne q1, setI_ne q2]; rfl
  have eL : ∀ b i, (b ≠ a + 5 ∨ i ≠ ruN r) → (kx_setI (kx_setI (kx_setL h (a + 5) (ruN r) (lN w)) (a + 6) (ruN r) (nI x)) a 5 (nI (ruN r + 1))).2.1 b i = h.2.1 b i := fun b i q => setL_ne q
  refine ⟨fun k hk => by rw [e _ _ (by omega) (by omega)]; exact h1 k hk, fun k hk => by rw [e _ _ (by omega) (by omega)]; exact h2 k hk, by rw [e _ _ (by omega) (by omega)]; exact h3, fun k hk => ⟨by rw [eL _ _ (by omega)]; exact (h4 k hk).1, by rw [e _ _ (by omega) (by omega)]; exact (h4 k hk).2⟩, setI_at, fun k hk => ?_, by rw [e _ _ (by omega) (by omega)]; exact h7, by rw [e _ _ (by omega) (by omega)]; exact h8, fun i y hy => ⟨by rw [eL _ _ (by omega)]; exact (h9 i y hy).1, by rw [e _ _ (by omega) (by omega)]; exact (h9 i y hy).2⟩⟩
  have hk' : k < ruN r + 1 := hk
  show _ = lN (upF (ruNW r) (ruN r) w k) ∧ _ = nI (upF (ruNP r) (ruN r) x k)
  unfold upF
  by_cases ek : k = ruN r
  · rw [if_pos ek, if_pos ek, ek]
    exact ⟨setL_at, by rw [setI_ne (Or.inl (by omega))]; exact setI_at⟩
  · rw [if_neg ek, if_neg ek, eL _ _ (Or.inr ek), e _ _ (Or.inl (by omega)) (Or.inr ek)]
    exact h6 k (by omega)
theorem RUc.dem {r : RU} {a : Nat} {x : Bool × Nat × Nat × Nat} {h : kx_Mem} (hp : RUc r a h) : RUc (ruDem r x) a (kx_setI (kx_setI (kx_setL h (a + 7) (ruD r).length (lN x.2.1)) (a + 8) (ruD r).length (nI (msk x))) a (if x.1 then 9 else 8) (nI ((if x.1 then (ruE r).length else (ruM r).length) + 1))) := by
  obtain ⟨h1, h2, h3, h4, h5, h6, h7, h8, h9⟩ := hp
  generalize hj : (if x.1 then 9 else 8) = j
  generalize hv : nI ((if x.1 then (ruE r).length else (ruM r).length) + 1) = v
  have hj2 : 8 ≤ j ∧ j ≤ 9 := by rw [← hj]; split <;> omega
  have e : ∀ b i, (b ≠ a ∨ i ≠ j) → (b ≠ a + 8 ∨ i ≠ (ruD r).length) → (kx_setI (kx_setI (kx_setL h (a + 7) (ruD r).length (lN x.2.1)) (a + 8) (ruD r).length (nI (msk x))) a j v).1 b i = h.1 b i := fun b i q1 q2 => by rw [setI_ne q1, setI_ne q2]; rfl
  have eL : ∀ b i, (b ≠ a + 7 ∨ i ≠ (ruD r).length) → (kx_setI (kx_setI (kx_setL h (a + 7) (ruD r).length (lN x.2.1)) (a + 8) (ruD r).length (nI (msk x))) a j v).2.1 b i = h.2.1 b i := fun b i q => setL_ne q
  refine ⟨fun k hk => by rw [e _ _ (by omega) (by omega)]; exact h1 k hk, fun k hk => by rw [e _ _ (by omega) (by omega)]; exact h2 k hk, by rw [e _ _ (by omega) (by omega)]; exact h3, fun k hk => ⟨by rw [eL _ _ (by omega)]; exact (h4 k hk).1, by rw [e _ _ (by omega) (by omega)]; exact (h4 k hk).2⟩, by rw [e _ _ (by omega) (by omega)]; exact h5, fun k hk => ⟨by rw [eL _ _ (by omega)]; exact (h6 k hk).1, by rw [e _ _ (by omega) (by omega)]; exact (h6 k hk).2⟩, ?_, ?_, fun i y hy => ?_⟩
  · rw [ruM_dem]
    cases hx : x.1 with
    | false =>
      rw [hx] at hj hv
      rw [← hj, ← hv]
      exact setI_at
    | true =>
      rw [hx] at hj
      rw [e _ _ (by right; rw [← hj]; decide) (by omega)]
      exact h7
  · rw [ruE_dem]
    cases hx : x.1 with
    | false =>
      rw [hx] at hj
      rw [e _ _ (by right; rw [← hj]; decide) (by omega)]
      exact h8
    | true =>
      rw [hx] at hj hv
      rw [← hj, ← hv]
      exact setI_at
  · have hy' : (ruD r ++ [x])[i]? = some y := hy
    rcases Nat.lt_or_ge i (ruD r).length with q | q
    · rw [List.getElem?_append_left q] at hy'
      rw [eL _ _ (Or.inr (by omega)), e _ _ (Or.inl (by omega)) (Or.inr (by omega))]
      exact h9 i y hy'
    · have hi : i = (ruD r).length := by
        have := (List.getElem?_eq_some_iff.mp hy').1
        simp at this
        omega
      rw [hi, List.getElem?_append_right (Nat.le_refl _), Nat.sub_self] at hy'
      have : x = y := by simpa using hy'
      rw [hi, ← this]
      exact ⟨setL_at, by rw [setI_ne (Or.inl (by omega))]; exact setI_at⟩
theorem x_Ru_set {l : Launch} {g : kx_G} {d : Nat} {h : kx_Mem} (a : Nat) (hr : IsRu h a) (j : Nat) (hj : j < 11) (x : Int32) : kx_Sp l g m_Ru_set [.ref a, .int (nI j), .int x] h (d) 0 0 (fun v h' => v = none ∧ h' = kx_setI h (a + 1) j x) := by
  have oa := hr.2.2.2.2.2.2.2.2.2.2.2.2.2.2.2.2.2
  refine kx_enter_e (lv := [_, _, _]) (by decide +kernel) (Nat.le_of_ble_eq_true rfl) rfl ?_
  refine kx_iload_n (pc := 0) (kx_dd d_Ru_set 0 rfl) rfl rfl ?_
  refine kx_if_lt (pc := 1) (tgt := 17) (kx_dd d_Ru_set 1 rfl) rfl (fun c1 => ?_) (fun c1 => ?_)
  · exact absurd c1 (nI_pos (by omega))
  · refine kx_iload_n (pc := 4) (kx_dd d_Ru_set 2 rfl) rfl rfl ?_
    refine kx_bipush (pc := 5) (v := 11) (kx_dd d_Ru_set 3 rfl) rfl ?_
    refine kx_icmp_ge (pc := 7) (tgt := 17) (kx_dd d_Ru_set 4 rfl) rfl (fun c7 => ?_) (fun c7 => ?_)
    · exact absurd c7 (nI_ge (b := 11) (by omega) (by decide))
    · refine kx_aload_n (pc := 10) (kx_dd d_Ru_set 5 rfl) rfl rfl ?_
      refine kx_getR (pc := 11) (b := (a + 1)) fl_Ru_11 (congrArg Prod.fst hr.1) rfl (hr.2.2.2.2.2.2.2.2.2.1) (kx_dd d_Ru_set 6 rfl) ?_
      refine kx_iload_n (pc := 14) (kx_dd d_Ru_set 7 rfl) rfl rfl ?_
      refine kx_iload_n (pc := 15) (kx_dd d_Ru_set 8 rfl) rfl rfl ?_
      refine kx_iastn (pc := 16) j (hr.2.1) (by omega) rfl hj (by decide) (kx_dd d_Ru_set 9 rfl) ?_
      refine kx_vret (pc := 17) rfl (kx_dd d_Ru_set 10 rfl) (Nat.le_refl _) (Nat.le_refl _) ?_
      exact ⟨rfl, rfl⟩
theorem x_Ru_weigh {l : Launch} {g : kx_G} {d : Nat} {h : kx_Mem} (a : Nat) (hr : IsRu h a) (r : RU) (ho : RUok r) (hp : RUc r a h) (k : Nat) (hk : k < ruK r) (x : Int32) : kx_Sp l g m_Ru_weigh [.ref a, .int (nI k), .int x] h (d) 0 0 (fun v h' => v = none ∧ h' = kx_setI h (a + 4) k x) := by
  have o16 := ho.1
  have o10 := ho.2.2.1
  have oa := hr.2.2.2.2.2.2.2.2.2.2.2.2.2.2.2.2.2
  refine kx_enter_e (lv := [_, _, _]) (by decide +kernel) (Nat.le_of_ble_eq_true rfl) rfl ?_
  refine kx_iload_n (pc := 0) (kx_dd d_Ru_weigh 0 rfl) rfl rfl ?_
  refine kx_if_lt (pc := 1) (tgt := 19) (kx_dd d_Ru_weigh 1 rfl) rfl (fun c1 => ?_) (fun c1 => ?_)
  · exact absurd c1 (nI_pos (by omega))
  · refine kx_iload_n (pc := 4) (kx_dd d_Ru_weigh 2 rfl) rfl rfl ?_
    refine kx_aload_n (pc := 5) (kx_dd d_Ru_weigh 3 rfl) rfl rfl ?_
    refine kx_getI (pc := 6) fl_Ru_40 (congrArg Prod.fst hr.1) rfl (kx_dd d_Ru_weigh 4 rfl) ?_
    refine kx_icmp_ge (pc := 9) (tgt := 19) (kx_dd d_Ru_weigh 5 rfl) rfl (fun c9 => ?_) (fun c9 => ?_)
    · exact absurd c9 (by rw [hp.2.2.1]; exact nI_ge (by omega) (by omega))
    · refine kx_aload_n (pc := 12) (kx_dd d_Ru_weigh 6 rfl) rfl rfl ?_
      refine kx_getR (pc := 13) (b := (a + 4)) fl_Ru_22 (congrArg Prod.fst hr.1) rfl (hr.2.2.2.2.2.2.2.2.2.2.2.2.1) (kx_dd d_Ru_weigh 7 rfl) ?_
      refine kx_iload_n (pc := 16) (kx_dd d_Ru_weigh 8 rfl) rfl rfl ?_
      refine kx_iload_n (pc := 17) (kx_dd d_Ru_weigh 9 rfl) rfl rfl ?_
      refine kx_iastn (pc := 18) k (hr.2.2.2.2.1) (by omega) rfl (by omega) (by decide) (kx_dd d_Ru_weigh 10 rfl) ?_
      refine kx_vret (pc := 19) rfl (kx_dd d_Ru_weigh 11 rfl) (Nat.le_refl _) (Nat.le_refl _) ?_
      exact ⟨rfl, rfl⟩
theorem x_Ru_kindFor {l : Launch} {g : kx_G} {d : Nat} {h : kx_Mem} (a : Nat) (hr : IsRu h a) (r : RU) (ho : RUok r) (hp : RUc r a h) (w : Nat) (hw : w < 2 ^ 60) : kx_Sp l g m_Ru_kindFor [.ref a, .long (lN w)] h (d + 1) 0 0 (fun v h' => (v = some (.int (oI (kiF r w))) ∧ h' = h ∧ (kiF r w = none → ruK r = 16)) ∨ (kiF r w = none ∧ ruK r < 16 ∧ v = some (.int (nI (ruK r))) ∧ h' = kx_setI (kx_setI (kx_setL h (a + 3) (ruK r) (lN w)) (a + 4) (ruK r) 0) a 2 (nI (ruK r + 1)))) := by
  have o16 := ho.1
  have o10 := ho.2.2.1
  have oa := hr.2.2.2.2.2.2.2.2.2.2.2.2.2.2.2.2.2
  have hkl : ∀ k, kiF r w = some k → k < ruK r := fun k z => (fnd_lt z).1
  refine kx_enter_e (lv := [_, _, _, _]) (by decide +kernel) (Nat.le_of_ble_eq_true rfl) rfl ?_
  refine kx_aload_n (pc := 0) (kx_dd d_Ru_kindFor 0 rfl) rfl rfl ?_
  refine kx_lload_n (pc := 1) (kx_dd d_Ru_kindFor 1 rfl) rfl rfl ?_
  refine kx_invV (pc := 2) (a := a) (as := [_]) (kx_dd d_Ru_kindFor 2 rfl) ⟨lk_Ru_53, wi_Ru_kindOf, we_Ru_kindOf⟩ w_Ru_kindOf (congrArg Prod.fst hr.1) rfl rfl rfl rfl (Nat.le_of_ble_eq_true rfl) (x_Ru_kindOf (d := d) a hr r ho hp w hw) (Nat.le_refl _) ⟨Nat.le_refl _, Nat.le_refl _⟩ (fun v h' hq => ?_)
  obtain ⟨rfl, he⟩ := hq
  rw [he]
  clear he
  refine kx_istore_ne (pc := 5) (lv' := [_, _, _, _]) (kx_dd d_Ru_kindFor 3 rfl) rfl (Nat.le_of_ble_eq_true rfl) rfl ?_
  refine kx_iload_n (pc := 6) (kx_dd d_Ru_kindFor 4 rfl) rfl rfl ?_
  refine kx_iconst (pc := 7) (v := -1) (kx_dd d_Ru_kindFor 5 rfl) rfl ?_
  refine kx_icmp_ne (pc := 8) (tgt := 20) (kx_dd d_Ru_kindFor 6 rfl) rfl (fun c8 => ?_) (fun c8 => ?_)
  · refine kx_iload_n (pc := 20) (kx_dd d_Ru_kindFor 11 rfl) rfl rfl ?_
    refine kx_iret (pc := 21) rfl (kx_dd d_Ru_kindFor 12 rfl) (Nat.le_refl _) (Nat.le_refl _) ?_
    rw [oI_n (fun k z => by have := hkl k z; omega)] at c8
    refine Or.inl ⟨rfl, rfl, ?_⟩
    intro z
    exact absurd z c8
  · refine kx_aload_n (pc := 11) (kx_dd d_Ru_kindFor 7 rfl) rfl rfl ?_
    refine kx_getI (pc := 12) fl_Ru_40 (congrArg Prod.fst hr.1) rfl (kx_dd d_Ru_kindFor 8 rfl) ?_
    refine kx_bipush (pc := 15) (v := 16) (kx_dd d_Ru_kindFor 9 rfl) rfl ?_
    refine kx_icmp_lt (pc := 17) (tgt := 22) (kx_dd d_Ru_kindFor 10 rfl) rfl (fun c17 => ?_) (fun c17 => ?_)
    · refine kx_aload_n (pc := 22) (kx_dd d_Ru_kindFor 13 rfl) rfl rfl ?_
      refine kx_getR (pc := 23) (b := (a + 3)) fl_Ru_18 (congrArg Prod.fst hr.1) rfl (hr.2.2.2.2.2.2.2.2.2.2.2.1) (kx_dd d_Ru_kindFor 14 rfl) ?_
      refine kx_aload_n (pc := 26) (kx_dd d_Ru_kindFor 15 rfl) rfl rfl ?_
      refine kx_getI (pc := 27) fl_Ru_40 (congrArg Prod.fst hr.1) rfl (kx_dd d_Ru_kindFor 16 rfl) ?_
      refine kx_lload_n (pc := 30) (kx_dd d_Ru_kindFor 17 rfl) rfl rfl ?_
      refine kx_lastn (pc := 31) (ruK r) (hr.2.2.2.1) (by omega) hp.2.2.1 (by rw [hp.2.2.1, show (16 : Int32) = nI 16 from rfl, nI_ltI (by omega) (by decide)] at c17; omega) (by decide) (kx_dd d_Ru_kindFor 18 rfl) ?_
      refine kx_aload_n (pc := 32) (kx_dd d_Ru_kindFor 19 rfl) rfl rfl ?_
      refine kx_getR (pc := 33) (b := (a + 4)) fl_Ru_22 (congrArg Prod.fst hr.1) rfl (hr.2.2.2.2.2.2.2.2.2.2.2.2.1) (kx_dd d_Ru_kindFor 20 rfl) ?_
      refine kx_aload_n (pc := 36) (kx_dd d_Ru_kindFor 21 rfl) rfl rfl ?_
      refine kx_getI (pc := 37) fl_Ru_40 (congrArg Prod.fst hr.1) rfl (kx_dd d_Ru_kindFor 22 rfl) ?_
      refine kx_iconst (pc := 40) (v := 0) (kx_dd d_Ru_kindFor 23 rfl) rfl ?_
      refine kx_iastn (pc := 41) (ruK r) (hr.2.2.2.2.1) (by omega) hp.2.2.1 (by rw [hp.2.2.1, show (16 : Int32) = nI 16 from rfl, nI_ltI (by omega) (by decide)] at c17; omega) (by decide) (kx_dd d_Ru_kindFor 24 rfl) ?_
      refine kx_aload_n (pc := 42) (kx_dd d_Ru_kindFor 25 rfl) rfl rfl ?_
      refine kx_dup (pc := 43) (kx_dd d_Ru_kindFor 26 rfl) rfl ?_
      refine kx_getI (pc := 44) fl_Ru_40 (congrArg Prod.fst hr.1) rfl (kx_dd d_Ru_kindFor 27 rfl) ?_
      refine kx_iconst (pc := 47) (v := 1) (kx_dd d_Ru_kindFor 28 rfl) rfl ?_
      refine kx_iadd (pc := 48) (kx_dd d_Ru_kindFor 29 rfl) ?_
      refine kx_putI (pc := 49) fl_Ru_40 (congrArg Prod.fst hr.1) (by omega) rfl rfl (kx_dd d_Ru_kindFor 30 rfl) ?_
      refine kx_aload_n (pc := 52) (kx_dd d_Ru_kindFor 31 rfl) rfl rfl ?_
      refine kx_getI (pc := 53) fl_Ru_40 (congrArg Prod.fst hr.1) rfl (kx_dd d_Ru_kindFor 32 rfl) ?_
      refine kx_iconst (pc := 56) (v := 1) (kx_dd d_Ru_kindFor 33 rfl) rfl ?_
      refine kx_isub (pc := 57) (kx_dd d_Ru_kindFor 34 rfl) ?_
      refine kx_iret (pc := 58) rfl (kx_dd d_Ru_kindFor 35 rfl) (Nat.le_refl _) (Nat.le_refl _) ?_
      rw [oI_n (fun k z => by have := hkl k z; omega)] at c8
      rw [hp.2.2.1, show (16 : Int32) = nI 16 from rfl, nI_ltI (by omega) (by decide)] at c17
      refine Or.inr ⟨c8, c17, ?_, ?_⟩
      · rw [setI_at, setI_ne (Or.inl (by omega)), show (kx_setL h (a + 3) (ruK r) (lN w)).1 a 2 = h.1 a 2 from rfl, hp.2.2.1, Int32.add_sub_cancel]
      · rw [setI_ne (Or.inl (by omega)), show (kx_setL h (a + 3) (ruK r) (lN w)).1 a 2 = h.1 a 2 from rfl, hp.2.2.1, nI_1]
    · refine kx_iload_n (pc := 20) (kx_dd d_Ru_kindFor 11 rfl) rfl rfl ?_
      refine kx_iret (pc := 21) rfl (kx_dd d_Ru_kindFor 12 rfl) (Nat.le_refl _) (Nat.le_refl _) ?_
      rw [oI_n (fun k z => by have := hkl k z; omega)] at c8
      rw [hp.2.2.1, show (16 : Int32) = nI 16 from rfl, nI_ltI (by omega) (by decide)] at c17
      exact Or.inl ⟨rfl, rfl, fun _ => by omega⟩
theorem x_Ru_isWeighed {l : Launch} {g : kx_G} {d : Nat} {h : kx_Mem} (a : Nat) (hr : IsRu h a) (r : RU) (ho : RUok r) (hp : RUc r a h) (w : Nat) (hw : w < 2 ^ 60) : kx_Sp l g m_Ru_isWeighed [.ref a, .long (lN w)] h (d + 1) 0 0 (fun v h' => v = some (.int (bP (∃ k, kiF r w = some k ∧ 0 < ruWT r k))) ∧ h' = h) := by
  have o16 := ho.1
  have o10 := ho.2.2.1
  have oa := hr.2.2.2.2.2.2.2.2.2.2.2.2.2.2.2.2.2
  have hkl : ∀ k, kiF r w = some k → k < ruK r := fun k z => (fnd_lt z).1
  refine kx_enter_e (lv := [_, _, _, _]) (by decide +kernel) (Nat.le_of_ble_eq_true rfl) rfl ?_
  refine kx_aload_n (pc := 0) (kx_dd d_Ru_isWeighed 0 rfl) rfl rfl ?_
  refine kx_lload_n (pc := 1) (kx_dd d_Ru_isWeighed 1 rfl) rfl rfl ?_
  refine kx_invV (pc := 2) (a := a) (as := [_]) (kx_dd d_Ru_isWeighed 2 rfl) ⟨lk_Ru_53, wi_Ru_kindOf, we_Ru_kindOf⟩ w_Ru_kindOf (congrArg Prod.fst hr.1) rfl rfl rfl rfl (Nat.le_of_ble_eq_true rfl) (x_Ru_kindOf (d := d) a hr r ho hp w hw) (Nat.le_refl _) ⟨Nat.le_refl _, Nat.le_refl _⟩ (fun v h' hq => ?_)
  obtain ⟨rfl, he⟩ := hq
  rw [he]
  clear he
  refine kx_istore_ne (pc := 5) (lv' := [_, _, _, _]) (kx_dd d_Ru_isWeighed 3 rfl) rfl (Nat.le_of_ble_eq_true rfl) rfl ?_
  refine kx_iload_n (pc := 6) (kx_dd d_Ru_isWeighed 4 rfl) rfl rfl ?_
  refine kx_iconst (pc := 7) (v := -1) (kx_dd d_Ru_isWeighed 5 rfl) rfl ?_
  refine kx_icmp_eq (pc := 8) (tgt := 24) (kx_dd d_Ru_isWeighed 6 rfl) rfl (fun c8 => ?_) (fun c8 => ?_)
  · refine kx_iconst (pc := 24) (v := 0) (kx_dd d_Ru_isWeighed 14 rfl) rfl ?_
    refine kx_zret (pc := 25) rfl rfl (kx_dd d_Ru_isWeighed 15 rfl) (Nat.le_refl _) (Nat.le_refl _) ?_
    rw [oI_n (fun k z => by have := hkl k z; omega)] at c8
    exact ⟨by rw [bP_f (fun ⟨k, z, _⟩ => by rw [c8] at z; cases z)], rfl⟩
  · obtain ⟨k9, hk9⟩ : ∃ k, kiF r w = some k := Option.ne_none_iff_exists'.mp (fun z => c8 (by rw [z]; rfl))
    have hk9l := hkl k9 hk9
    rw [show oI (kiF r w) = nI k9 by rw [hk9]; rfl]
    refine kx_aload_n (pc := 11) (kx_dd d_Ru_isWeighed 7 rfl) rfl rfl ?_
    refine kx_getR (pc := 12) (b := (a + 4)) fl_Ru_22 (congrArg Prod.fst hr.1) rfl (hr.2.2.2.2.2.2.2.2.2.2.2.2.1) (kx_dd d_Ru_isWeighed 8 rfl) ?_
    refine kx_iload_n (pc := 15) (kx_dd d_Ru_isWeighed 9 rfl) rfl rfl ?_
    refine kx_ialdn (pc := 16) k9 (hr.2.2.2.2.1) rfl (by omega) (by decide) (kx_dd d_Ru_isWeighed 10 rfl) ?_
    rw [(hp.2.2.2.1 k9 hk9l).2]
    refine kx_if_le (pc := 17) (tgt := 24) (kx_dd d_Ru_isWeighed 11 rfl) rfl (fun c17 => ?_) (fun c17 => ?_)
    · refine kx_iconst (pc := 24) (v := 0) (kx_dd d_Ru_isWeighed 14 rfl) rfl ?_
      refine kx_zret (pc := 25) rfl rfl (kx_dd d_Ru_isWeighed 15 rfl) (Nat.le_refl _) (Nat.le_refl _) ?_
      have e17 : ¬ (kiF r w = none) := fun z => c8 (by rw [z]; rfl)
      rw [show (0 : Int32) = nI 0 from rfl, nI_leI (by have := (ho.2.1 k9 (by omega)).2; omega) (by decide)] at c17
      exact ⟨by rw [bP_f (fun ⟨k, z, q⟩ => by rw [hk9] at z; cases z; omega)], rfl⟩
    · refine kx_iconst (pc := 20) (v := 1) (kx_dd d_Ru_isWeighed 12 rfl) rfl ?_
      refine kx_goto (pc := 21) (tgt := 25) (kx_dd d_Ru_isWeighed 13 rfl) rfl ?_
      refine kx_zret (pc := 25) rfl rfl (kx_dd d_Ru_isWeighed 15 rfl) (Nat.le_refl _) (Nat.le_refl _) ?_
      have e17 : ¬ (kiF r w = none) := fun z => c8 (by rw [z]; rfl)
      rw [show (0 : Int32) = nI 0 from rfl, nI_leI (by have := (ho.2.1 k9 (by omega)).2; omega) (by decide)] at c17
      exact ⟨by rw [bP_t ⟨k9, hk9, by omega⟩], rfl⟩
theorem x_Ru_isNeedTold {l : Launch} {g : kx_G} {d : Nat} {h : kx_Mem} (a : Nat) (hr : IsRu h a) (r : RU) (ho : RUok r) (hp : RUc r a h) (w : Nat) (hw : w < 2 ^ 60) : kx_Sp l g m_Ru_isNeedTold [.ref a, .long (lN w)] h (d + 1) 0 0 (fun v h' => v = some (.int (bP (neF r w ≠ none))) ∧ h' = h) := by
  have o16 := ho.1
  have o10 := ho.2.2.1
  have oa := hr.2.2.2.2.2.2.2.2.2.2.2.2.2.2.2.2.2
  refine kx_enter_e (lv := [_, _, _]) (by decide +kernel) (Nat.le_of_ble_eq_true rfl) rfl ?_
  refine kx_aload_n (pc := 0) (kx_dd d_Ru_isNeedTold 0 rfl) rfl rfl ?_
  refine kx_lload_n (pc := 1) (kx_dd d_Ru_isNeedTold 1 rfl) rfl rfl ?_
  refine kx_invV (pc := 2) (a := a) (as := [_]) (kx_dd d_Ru_isNeedTold 2 rfl) ⟨lk_Ru_57, wi_Ru_needIndex, we_Ru_needIndex⟩ w_Ru_needIndex (congrArg Prod.fst hr.1) rfl rfl rfl rfl (Nat.le_of_ble_eq_true rfl) (x_Ru_needIndex (d := d) a hr r ho hp w hw) (Nat.le_refl _) ⟨Nat.le_refl _, Nat.le_refl _⟩ (fun v h' hq => ?_)
  obtain ⟨rfl, he⟩ := hq
  rw [he]
  clear he
  refine kx_iconst (pc := 5) (v := -1) (kx_dd d_Ru_isNeedTold 3 rfl) rfl ?_
  refine kx_icmp_eq (pc := 6) (tgt := 13) (kx_dd d_Ru_isNeedTold 4 rfl) rfl (fun c6 => ?_) (fun c6 => ?_)
  · refine kx_iconst (pc := 13) (v := 0) (kx_dd d_Ru_isNeedTold 7 rfl) rfl ?_
    refine kx_zret (pc := 14) rfl rfl (kx_dd d_Ru_isNeedTold 8 rfl) (Nat.le_refl _) (Nat.le_refl _) ?_
    rw [oI_n (fun k z => by have := (fnd_lt z).1; omega)] at c6
    exact ⟨by rw [bP_f (fun z => z c6)], rfl⟩
  · refine kx_iconst (pc := 9) (v := 1) (kx_dd d_Ru_isNeedTold 5 rfl) rfl ?_
    refine kx_goto (pc := 10) (tgt := 14) (kx_dd d_Ru_isNeedTold 6 rfl) rfl ?_
    refine kx_zret (pc := 14) rfl rfl (kx_dd d_Ru_isNeedTold 8 rfl) (Nat.le_refl _) (Nat.le_refl _) ?_
    rw [oI_n (fun k z => by have := (fnd_lt z).1; omega)] at c6
    exact ⟨by rw [bP_t c6], rfl⟩
theorem x_Ru_addNeed {l : Launch} {g : kx_G} {d : Nat} {h : kx_Mem} (a : Nat) (hr : IsRu h a) (r : RU) (ho : RUok r) (hp : RUc r a h) (w : Nat) (x : Int32) (hn : ruN r < 10) : kx_Sp l g m_Ru_addNeed [.ref a, .long (lN w), .int x] h (d) 0 0 (fun v h' => v = none ∧ h' = kx_setI (kx_setI (kx_setL h (a + 5) (ruN r) (lN w)) (a + 6) (ruN r) x) a 5 (nI (ruN r + 1))) := by
  have o16 := ho.1
  have o10 := ho.2.2.1
  have oa := hr.2.2.2.2.2.2.2.2.2.2.2.2.2.2.2.2.2
  refine kx_enter_e (lv := [_, _, _, _]) (by decide +kernel) (Nat.le_of_ble_eq_true rfl) rfl ?_
  refine kx_aload_n (pc := 0) (kx_dd d_Ru_addNeed 0 rfl) rfl rfl ?_
  refine kx_getI (pc := 1) fl_Ru_44 (congrArg Prod.fst hr.1) rfl (kx_dd d_Ru_addNeed 1 rfl) ?_
  refine kx_bipush (pc := 4) (v := 10) (kx_dd d_Ru_addNeed 2 rfl) rfl ?_
  refine kx_icmp_ge (pc := 6) (tgt := 39) (kx_dd d_Ru_addNeed 3 rfl) rfl (fun c6 => ?_) (fun c6 => ?_)
  · exact absurd c6 (by rw [hp.2.2.2.2.1]; exact nI_ge (b := 10) (by omega) (by decide))
  · refine kx_aload_n (pc := 9) (kx_dd d_Ru_addNeed 4 rfl) rfl rfl ?_
    refine kx_getR (pc := 10) (b := (a + 5)) fl_Ru_25 (congrArg Prod.fst hr.1) rfl (hr.2.2.2.2.2.2.2.2.2.2.2.2.2.1) (kx_dd d_Ru_addNeed 5 rfl) ?_
    refine kx_aload_n (pc := 13) (kx_dd d_Ru_addNeed 6 rfl) rfl rfl ?_
    refine kx_getI (pc := 14) fl_Ru_44 (congrArg Prod.fst hr.1) rfl (kx_dd d_Ru_addNeed 7 rfl) ?_
    refine kx_lload_n (pc := 17) (kx_dd d_Ru_addNeed 8 rfl) rfl rfl ?_
    refine kx_lastn (pc := 18) (ruN r) (hr.2.2.2.2.2.1) (by omega) hp.2.2.2.2.1 (by omega) (by decide) (kx_dd d_Ru_addNeed 9 rfl) ?_
    refine kx_aload_n (pc := 19) (kx_dd d_Ru_addNeed 10 rfl) rfl rfl ?_
    refine kx_getR (pc := 20) (b := (a + 6)) fl_Ru_28 (congrArg Prod.fst hr.1) rfl (hr.2.2.2.2.2.2.2.2.2.2.2.2.2.2.1) (kx_dd d_Ru_addNeed 11 rfl) ?_
    refine kx_aload_n (pc := 23) (kx_dd d_Ru_addNeed 12 rfl) rfl rfl ?_
    refine kx_getI (pc := 24) fl_Ru_44 (congrArg Prod.fst hr.1) rfl (kx_dd d_Ru_addNeed 13 rfl) ?_
    refine kx_iload_n (pc := 27) (kx_dd d_Ru_addNeed 14 rfl) rfl rfl ?_
    refine kx_iastn (pc := 28) (ruN r) (hr.2.2.2.2.2.2.1) (by omega) hp.2.2.2.2.1 (by omega) (by decide) (kx_dd d_Ru_addNeed 15 rfl) ?_
    refine kx_aload_n (pc := 29) (kx_dd d_Ru_addNeed 16 rfl) rfl rfl ?_
    refine kx_dup (pc := 30) (kx_dd d_Ru_addNeed 17 rfl) rfl ?_
    refine kx_getI (pc := 31) fl_Ru_44 (congrArg Prod.fst hr.1) rfl (kx_dd d_Ru_addNeed 18 rfl) ?_
    refine kx_iconst (pc := 34) (v := 1) (kx_dd d_Ru_addNeed 19 rfl) rfl ?_
    refine kx_iadd (pc := 35) (kx_dd d_Ru_addNeed 20 rfl) ?_
    refine kx_putI (pc := 36) fl_Ru_44 (congrArg Prod.fst hr.1) (by omega) rfl rfl (kx_dd d_Ru_addNeed 21 rfl) ?_
    refine kx_vret (pc := 39) rfl (kx_dd d_Ru_addNeed 22 rfl) (Nat.le_refl _) (Nat.le_refl _) ?_
    exact ⟨rfl, by rw [setI_ne (Or.inl (by omega)), show (kx_setL h (a + 5) (ruN r) (lN w)).1 a 5 = h.1 a 5 from rfl, hp.2.2.2.2.1, nI_1]⟩
theorem x_Ru_addDemand {l : Launch} {g : kx_G} {d : Nat} {h : kx_Mem} (a : Nat) (hr : IsRu h a) (r : RU) (ho : RUok r) (hp : RUc r a h) (w : Nat) (x : Int32) (hn : (ruD r).length < 20) : kx_Sp l g m_Ru_addDemand [.ref a, .long (lN w), .int x] h (d) 0 0 (fun v h' => v = none ∧ h' = kx_setI (kx_setL h (a + 7) (ruD r).length (lN w)) (a + 8) (ruD r).length x) := by
  have o16 := ho.1
  have o10 := ho.2.2.1
  have oa := hr.2.2.2.2.2.2.2.2.2.2.2.2.2.2.2.2.2
  have eL : h.1 a 8 + h.1 a 9 = nI (ruD r).length := by rw [hp.2.2.2.2.2.2.1, hp.2.2.2.2.2.2.2.1, nI_add, ruD_len]
  refine kx_enter_e (lv := [_, _, _, _, _]) (by decide +kernel) (Nat.le_of_ble_eq_true rfl) rfl ?_
  refine kx_aload_n (pc := 0) (kx_dd d_Ru_addDemand 0 rfl) rfl rfl ?_
  refine kx_getI (pc := 1) fl_Ru_47 (congrArg Prod.fst hr.1) rfl (kx_dd d_Ru_addDemand 1 rfl) ?_
  refine kx_aload_n (pc := 4) (kx_dd d_Ru_addDemand 2 rfl) rfl rfl ?_
  refine kx_getI (pc := 5) fl_Ru_50 (congrArg Prod.fst hr.1) rfl (kx_dd d_Ru_addDemand 3 rfl) ?_
  refine kx_iadd (pc := 8) (kx_dd d_Ru_addDemand 4 rfl) ?_
  refine kx_istore_e (pc := 9) (lv' := [_, _, _, _, _]) (kx_dd d_Ru_addDemand 5 rfl) (Nat.le_of_ble_eq_true rfl) rfl ?_
  refine kx_iload (pc := 11) (kx_dd d_Ru_addDemand 6 rfl) rfl ?_
  refine kx_bipush (pc := 13) (v := 20) (kx_dd d_Ru_addDemand 7 rfl) rfl ?_
  refine kx_icmp_ge (pc := 15) (tgt := 34) (kx_dd d_Ru_addDemand 8 rfl) rfl (fun c15 => ?_) (fun c15 => ?_)
  · exact absurd c15 (by rw [eL]; exact nI_ge (b := 20) (by omega) (by decide))
  · refine kx_aload_n (pc := 18) (kx_dd d_Ru_addDemand 9 rfl) rfl rfl ?_
    refine kx_getR (pc := 19) (b := (a + 7)) fl_Ru_31 (congrArg Prod.fst hr.1) rfl (hr.2.2.2.2.2.2.2.2.2.2.2.2.2.2.2.1) (kx_dd d_Ru_addDemand 10 rfl) ?_
    refine kx_iload (pc := 22) (kx_dd d_Ru_addDemand 11 rfl) rfl ?_
    refine kx_lload_n (pc := 24) (kx_dd d_Ru_addDemand 12 rfl) rfl rfl ?_
    refine kx_lastn (pc := 25) (ruD r).length (hr.2.2.2.2.2.2.2.1) (by omega) eL (by omega) (by decide) (kx_dd d_Ru_addDemand 13 rfl) ?_
    refine kx_aload_n (pc := 26) (kx_dd d_Ru_addDemand 14 rfl) rfl rfl ?_
    refine kx_getR (pc := 27) (b := (a + 8)) fl_Ru_34 (congrArg Prod.fst hr.1) rfl (hr.2.2.2.2.2.2.2.2.2.2.2.2.2.2.2.2.1) (kx_dd d_Ru_addDemand 15 rfl) ?_
    refine kx_iload (pc := 30) (kx_dd d_Ru_addDemand 16 rfl) rfl ?_
    refine kx_iload_n (pc := 32) (kx_dd d_Ru_addDemand 17 rfl) rfl rfl ?_
    refine kx_iastn (pc := 33) (ruD r).length (hr.2.2.2.2.2.2.2.2.1) (by omega) eL (by omega) (by decide) (kx_dd d_Ru_addDemand 18 rfl) ?_
    refine kx_vret (pc := 34) rfl (kx_dd d_Ru_addDemand 19 rfl) (Nat.le_refl _) (Nat.le_refl _) ?_
    exact ⟨rfl, rfl⟩
theorem x_Ru_addMust {l : Launch} {g : kx_G} {d : Nat} {h : kx_Mem} (a : Nat) (hr : IsRu h a) (r : RU) (ho : RUok r) (hp : RUc r a h) (w k : Nat) (hk : k < 16) (hn : (ruM r).length < 10) : kx_Sp l g m_Ru_addMust [.ref a, .long (lN w), .int (nI k)] h (d + 1) 0 0 (fun v h' => v = none ∧ h' = kx_setI (kx_setI (kx_setL h (a + 7) (ruD r).length (lN w)) (a + 8) (ruD r).length (nI (msk (false, w, k, k)))) a 8 (nI ((ruM r).length + 1))) := by
  have o16 := ho.1
  have o10 := ho.2.2.1
  have oa := hr.2.2.2.2.2.2.2.2.2.2.2.2.2.2.2.2.2
  have hlen := ruD_len r
  refine kx_enter_e (lv := [_, _, _, _]) (by decide +kernel) (Nat.le_of_ble_eq_true rfl) rfl ?_
  refine kx_aload_n (pc := 0) (kx_dd d_Ru_addMust 0 rfl) rfl rfl ?_
  refine kx_getI (pc := 1) fl_Ru_47 (congrArg Prod.fst hr.1) rfl (kx_dd d_Ru_addMust 1 rfl) ?_
  refine kx_bipush (pc := 4) (v := 10) (kx_dd d_Ru_addMust 2 rfl) rfl ?_
  refine kx_icmp_ge (pc := 6) (tgt := 27) (kx_dd d_Ru_addMust 3 rfl) rfl (fun c6 => ?_) (fun c6 => ?_)
  · exact absurd c6 (by rw [hp.2.2.2.2.2.2.1]; exact nI_ge (b := 10) (by omega) (by decide))
  · refine kx_aload_n (pc := 9) (kx_dd d_Ru_addMust 4 rfl) rfl rfl ?_
    refine kx_lload_n (pc := 10) (kx_dd d_Ru_addMust 5 rfl) rfl rfl ?_
    refine kx_iconst (pc := 11) (v := 1) (kx_dd d_Ru_addMust 6 rfl) rfl ?_
    refine kx_iload_n (pc := 12) (kx_dd d_Ru_addMust 7 rfl) rfl rfl ?_
    refine kx_ishl (pc := 13) (kx_dd d_Ru_addMust 8 rfl) ?_
    refine kx_invV (pc := 14) (a := a) (as := [_, _]) (kx_dd d_Ru_addMust 9 rfl) ⟨lk_Ru_60, wi_Ru_addDemand, we_Ru_addDemand⟩ w_Ru_addDemand (congrArg Prod.fst hr.1) rfl rfl rfl rfl (Nat.le_of_ble_eq_true rfl) (x_Ru_addDemand (d := d) a hr r ho hp w _ (by have := ho.2.2.2.2.2.1; omega)) (Nat.le_refl _) ⟨Nat.le_refl _, Nat.le_refl _⟩ (fun v h' hq => ?_)
    obtain ⟨rfl, he⟩ := hq
    rw [he]
    clear he
    refine kx_aload_n (pc := 17) (kx_dd d_Ru_addMust 10 rfl) rfl rfl ?_
    refine kx_dup (pc := 18) (kx_dd d_Ru_addMust 11 rfl) rfl ?_
    refine kx_getI (pc := 19) fl_Ru_47 (congrArg Prod.fst hr.1) rfl (kx_dd d_Ru_addMust 12 rfl) ?_
    refine kx_iconst (pc := 22) (v := 1) (kx_dd d_Ru_addMust 13 rfl) rfl ?_
    refine kx_iadd (pc := 23) (kx_dd d_Ru_addMust 14 rfl) ?_
    refine kx_putI (pc := 24) fl_Ru_47 (congrArg Prod.fst hr.1) (by omega) rfl rfl (kx_dd d_Ru_addMust 15 rfl) ?_
    refine kx_vret (pc := 27) rfl (kx_dd d_Ru_addMust 16 rfl) (Nat.le_refl _) (Nat.le_refl _) ?_
    refine ⟨rfl, ?_⟩
    rw [setI_ne (Or.inl (by omega)), show (kx_setL h (a + 7) (ruD r).length (lN w)).1 a 8 = h.1 a 8 from rfl, hp.2.2.2.2.2.2.1, nI_1, nI_pow (by omega), show msk (false, w, k, k) = 2 ^ k from Nat.or_self _]
theorem x_Ru_addEither {l : Launch} {g : kx_G} {d : Nat} {h : kx_Mem} (a : Nat) (hr : IsRu h a) (r : RU) (ho : RUok r) (hp : RUc r a h) (w k k2 : Nat) (hk : k < 16) (hk2 : k2 < 16) (hn : (ruE r).length < 10) : kx_Sp l g m_Ru_addEither [.ref a, .long (lN w), .int (nI k), .int (nI k2)] h (d + 1) 0 0 (fun v h' => v = none ∧ h' = kx_setI (kx_setI (kx_setL h (a + 7) (ruD r).length (lN w)) (a + 8) (ruD r).length (nI (msk (true, w, k, k2)))) a 9 (nI ((ruE r).length + 1))) := by
  have o16 := ho.1
  have o10 := ho.2.2.1
  have oa := hr.2.2.2.2.2.2.2.2.2.2.2.2.2.2.2.2.2
  have hlen := ruD_len r
  refine kx_enter_e (lv := [_, _, _, _, _]) (by decide +kernel) (Nat.le_of_ble_eq_true rfl) rfl ?_
  refine kx_aload_n (pc := 0) (kx_dd d_Ru_addEither 0 rfl) rfl rfl ?_
  refine kx_getI (pc := 1) fl_Ru_50 (congrArg Prod.fst hr.1) rfl (kx_dd d_Ru_addEither 1 rfl) ?_
  refine kx_bipush (pc := 4) (v := 10) (kx_dd d_Ru_addEither 2 rfl) rfl ?_
  refine kx_icmp_ge (pc := 6) (tgt := 32) (kx_dd d_Ru_addEither 3 rfl) rfl (fun c6 => ?_) (fun c6 => ?_)
  · exact absurd c6 (by rw [hp.2.2.2.2.2.2.2.1]; exact nI_ge (b := 10) (by omega) (by decide))
  · refine kx_aload_n (pc := 9) (kx_dd d_Ru_addEither 4 rfl) rfl rfl ?_
    refine kx_lload_n (pc := 10) (kx_dd d_Ru_addEither 5 rfl) rfl rfl ?_
    refine kx_iconst (pc := 11) (v := 1) (kx_dd d_Ru_addEither 6 rfl) rfl ?_
    refine kx_iload_n (pc := 12) (kx_dd d_Ru_addEither 7 rfl) rfl rfl ?_
    refine kx_ishl (pc := 13) (kx_dd d_Ru_addEither 8 rfl) ?_
    refine kx_iconst (pc := 14) (v := 1) (kx_dd d_Ru_addEither 9 rfl) rfl ?_
    refine kx_iload (pc := 15) (kx_dd d_Ru_addEither 10 rfl) rfl ?_
    refine kx_ishl (pc := 17) (kx_dd d_Ru_addEither 11 rfl) ?_
    refine kx_ior (pc := 18) (kx_dd d_Ru_addEither 12 rfl) ?_
    refine kx_invV (pc := 19) (a := a) (as := [_, _]) (kx_dd d_Ru_addEither 13 rfl) ⟨lk_Ru_60, wi_Ru_addDemand, we_Ru_addDemand⟩ w_Ru_addDemand (congrArg Prod.fst hr.1) rfl rfl rfl rfl (Nat.le_of_ble_eq_true rfl) (x_Ru_addDemand (d := d) a hr r ho hp w _ (by have := ho.2.2.2.2.1; omega)) (Nat.le_refl _) ⟨Nat.le_refl _, Nat.le_refl _⟩ (fun v h' hq => ?_)
    obtain ⟨rfl, he⟩ := hq
    rw [he]
    clear he
    refine kx_aload_n (pc := 22) (kx_dd d_Ru_addEither 14 rfl) rfl rfl ?_
    refine kx_dup (pc := 23) (kx_dd d_Ru_addEither 15 rfl) rfl ?_
    refine kx_getI (pc := 24) fl_Ru_50 (congrArg Prod.fst hr.1) rfl (kx_dd d_Ru_addEither 16 rfl) ?_
    refine kx_iconst (pc := 27) (v := 1) (kx_dd d_Ru_addEither 17 rfl) rfl ?_
    refine kx_iadd (pc := 28) (kx_dd d_Ru_addEither 18 rfl) ?_
    refine kx_putI (pc := 29) fl_Ru_50 (congrArg Prod.fst hr.1) (by omega) rfl rfl (kx_dd d_Ru_addEither 19 rfl) ?_
    refine kx_vret (pc := 32) rfl (kx_dd d_Ru_addEither 20 rfl) (Nat.le_refl _) (Nat.le_refl _) ?_
    refine ⟨rfl, ?_⟩
    rw [setI_ne (Or.inl (by omega)), show (kx_setL h (a + 7) (ruD r).length (lN w)).1 a 9 = h.1 a 9 from rfl, hp.2.2.2.2.2.2.2.1, nI_1, nI_pow (by omega), nI_pow (by omega), nI_or, show msk (true, w, k, k2) = 2 ^ k ||| 2 ^ k2 from rfl]
