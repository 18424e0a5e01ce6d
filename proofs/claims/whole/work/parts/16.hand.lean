/-! the class: People.hand -/
def kx_Fp (P : Nat → Prop) (h h' : kx_Mem) : Prop := h'.2 = h.2 ∧ ∀ a, ¬ P a → h'.1 a = h.1 a
theorem kx_Fr.p {X : List Nat} {P : Nat → Prop} {h h' : kx_Mem} (hf : kx_Fr X h h') (hX : ∀ a ∈ X, P a) : kx_Fp P h h' := ⟨hf.1, fun a ha => hf.2 a (fun q => ha (hX a q))⟩
theorem kx_Fp.rf {P : Nat → Prop} {h : kx_Mem} : kx_Fp P h h := ⟨rfl, fun _ _ => rfl⟩
theorem kx_Fp.tr {P : Nat → Prop} {h h1 h2 : kx_Mem} (a : kx_Fp P h h1) (b : kx_Fp P h1 h2) : kx_Fp P h h2 := ⟨b.1.trans a.1, fun x hx => (b.2 x hx).trans (a.2 x hx)⟩
theorem kx_Fp.mono {P P' : Nat → Prop} {h h1 : kx_Mem} (a : kx_Fp P h h1) (hP : ∀ a, P a → P' a) : kx_Fp P' h h1 := ⟨a.1, fun x hx => a.2 x (fun z => hx (hP x z))⟩
theorem kx_Fp.set {P : Nat → Prop} {h : kx_Mem} {a j : Nat} {v : Int32} (ha : P a) : kx_Fp P h (kx_setI h a j v) := ⟨rfl, fun b hb => by
  funext k
  exact kx_up_ne (fun e => hb (e ▸ ha))⟩
theorem kx_SS.fp {R T : List (Nat × Nat × Nat)} {P : Nat → Prop} {h h' : kx_Mem} (hs : kx_SS R T h) (hf : kx_Fp P h h') : kx_SS R T h' := by
  unfold kx_SS
  rw [hf.1]
  exact hs
theorem PSc.fp {s : PS} {P : Nat → Prop} {h h' : kx_Mem} (hp : PSc s h) (hf : kx_Fp P h h') (hX : ∀ a ∈ [14, 17, 18, 19, 20, 21], ¬ P a) : PSc s h' := by
  unfold PSc
  rw [hf.2 14 (hX 14 (by decide)), hf.2 17 (hX 17 (by decide)), hf.2 18 (hX 18 (by decide)), hf.2 19 (hX 19 (by decide)), hf.2 20 (hX 20 (by decide)), hf.2 21 (hX 21 (by decide))]
  exact hp
theorem heRow.fp {L : List (Nat × Nat)} {a b : Nat} {P : Nat → Prop} {h h' : kx_Mem} (hr : heRow L a b h) (hf : kx_Fp P h h') (ha : ¬ P a) (hb : ¬ P b) : heRow L a b h' := by
  unfold heRow
  rw [hf.2 a ha, hf.2 b hb]
  exact hr
/-- sums over the first k of a row -/
def sumP (L : List (Nat × Nat)) (k : Nat) : Nat := ((L.take k).map (·.2)).sum
def quoP (m W : Nat) (L : List (Nat × Nat)) (k : Nat) : Nat := ((L.take k).map (fun q => m * q.2 / W)).sum
theorem sumP_s {L : List (Nat × Nat)} {k : Nat} {x : Nat × Nat} (hx : L[k]? = some x) : sumP L (k + 1) = sumP L k + x.2 := by
  unfold sumP
  rw [List.take_succ, hx]
  simp
theorem quoP_s {m W : Nat} {L : List (Nat × Nat)} {k : Nat} {x : Nat × Nat} (hx : L[k]? = some x) : quoP m W L (k + 1) = quoP m W L k + m * x.2 / W := by
  unfold quoP
  rw [List.take_succ, hx]
  simp
theorem quoP_mul {m W : Nat} {L : List (Nat × Nat)} : ∀ k, quoP m W L k * W ≤ m * sumP L k
  | 0 => by simp [quoP, sumP]
  | k + 1 => by
    cases hx : L[k]? with
    | none =>
      have h1 : L.take (k + 1) = L.take k := by rw [List.take_succ, hx]; simp
      have h2 := quoP_mul (m := m) (W := W) (L := L) k
      unfold quoP sumP at h2 ⊢
      rw [h1]
      exact h2
    | some x =>
      rw [quoP_s hx, sumP_s hx, Nat.add_mul, Nat.mul_add]
      have h2 := quoP_mul (m := m) (W := W) (L := L) k
      have h3 := Nat.div_mul_le_self (m * x.2) W
      omega
theorem sumP_mono {L : List (Nat × Nat)} {k n : Nat} (h : k ≤ n) : sumP L k ≤ sumP L n := by
  induction n with
  | zero => rw [show k = 0 by omega]; exact Nat.le_refl _
  | succ n ih =>
    by_cases hk : k = n + 1
    · rw [hk]; exact Nat.le_refl _
    · have h1 := ih (by omega)
      cases hx : L[n]? with
      | none =>
        have : L.take (n + 1) = L.take n := by rw [List.take_succ, hx]; simp
        have : sumP L (n + 1) = sumP L n := by unfold sumP; rw [this]
        omega
      | some x => rw [sumP_s hx]; omega
theorem quoP_le {m : Nat} {L : List (Nat × Nat)} (hW : 0 < sumP L L.length) (k : Nat) (hk : k ≤ L.length) : quoP m (sumP L L.length) L k ≤ m := by
  have h1 := quoP_mul (m := m) (W := sumP L L.length) (L := L) k
  have h2 := sumP_mono (L := L) hk
  have h3 : m * sumP L k ≤ m * sumP L L.length := Nat.mul_le_mul_left m h2
  exact Nat.le_of_mul_le_mul_right (Nat.le_trans h1 h3) hW
def shrP (m : Nat) (L : List (Nat × Nat)) (k : Nat) : Nat := m * (L.getD k (0, 0)).2 / sumP L L.length + (if k < m - quoP m (sumP L L.length) L L.length then 1 else 0)
def puAdd (pu : Nat → Int32) (p m : Nat) : Nat → Int32 := fun q => if q = p then pu p + nI m else pu q
/-- what is paid to one: the purses behind it; n: how often it may still go on -/
noncomputable def handF (s : PS) (td : Nat) : Nat → Nat → Nat → (Nat → Int32) → Nat → Int32
  | 0, p, m, pu => puAdd pu p m
  | n + 1, p, m, pu => @ite _ (deadP s p td td ∧ heF s p td ≠ []) (Classical.propDecidable _) ((List.range (heF s p td).length).foldl (fun pu k => if 0 < shrP m (heF s p td) k then handF s td n ((heF s p td).getD k (0, 0)).1 (shrP m (heF s p td) k) pu else pu) pu) (puAdd pu p m)
noncomputable def hanK (s : PS) (td n m : Nat) (L : List (Nat × Nat)) (pu : Nat → Int32) (k : Nat) : Nat → Int32 := (List.range k).foldl (fun pu k => if 0 < shrP m L k then handF s td n (L.getD k (0, 0)).1 (shrP m L k) pu else pu) pu
theorem hanK_s {s : PS} {td n m : Nat} {L : List (Nat × Nat)} {pu : Nat → Int32} {k : Nat} : hanK s td n m L pu (k + 1) = (if 0 < shrP m L k then handF s td n (L.getD k (0, 0)).1 (shrP m L k) (hanK s td n m L pu k) else hanK s td n m L pu k) := by
  unfold hanK
  rw [List.range_succ, List.foldl_append]
  rfl
theorem shareI {m x W : Nat} (hm : m < 2 ^ 31) (hx : x < 2 ^ 31) (h0 : 0 < W) (hW : W < 2 ^ 31) : ((nI m).toInt64 * (nI x).toInt64 / (nI W).toInt64).toInt32 = nI (m * x / W) := by
  rw [nI_l hm, nI_l hx, nI_l hW, lN_mul, pk_lDiv ?_ h0 (by omega), lN_i]
  exact Nat.lt_of_le_of_lt (Nat.mul_le_mul (Nat.le_of_lt hm) (Nat.le_of_lt hx)) (by decide)
theorem shrP_le {m k : Nat} {L : List (Nat × Nat)} (hk : k < L.length) (hW : 0 < sumP L L.length) : shrP m L k ≤ m + 1 := by
  unfold shrP
  obtain ⟨x, hx⟩ : ∃ x, L[k]? = some x := ⟨_, List.getElem?_eq_getElem hk⟩
  have h1 : L.getD k (0, 0) = x := by simp [List.getD, hx]
  rw [h1]
  have h2 := sumP_s hx
  have h3 := sumP_mono (L := L) (show k + 1 ≤ L.length from hk)
  have h4 : m * x.2 / sumP L L.length ≤ m := by
    refine Nat.div_le_of_le_mul ?_
    rw [Nat.mul_comm]
    exact Nat.mul_le_mul_right m (by omega)
  split <;> omega
def PH (r a : Nat) : Prop := a = 16 ∨ (23 + r ≤ a ∧ a < 26) ∨ (27 + r ≤ a ∧ a < 30)
theorem sumP_b {L : List (Nat × Nat)} (hLo : ∀ x ∈ L, x.1 < 60 ∧ x.2 ≤ 99) : ∀ k, sumP L k ≤ 99 * k
  | 0 => by simp [sumP]
  | k + 1 => by
    have h1 := sumP_b hLo k
    cases hx : L[k]? with
    | none =>
      have : sumP L (k + 1) = sumP L k := by unfold sumP; rw [List.take_succ, hx]; simp
      omega
    | some x =>
      have := (hLo x (List.mem_of_getElem? hx)).2
      rw [sumP_s hx]; omega
theorem x_hand_l1 {l : Launch} {g : kx_G} {D : Nat} {Q : Option Value → kx_Mem → Prop} {h : kx_Mem} (hs : SC h) (s : PS) (p m td r : Nat) (hm : m < 2 ^ 31) (hr : r < 3) (L : List (Nat × Nat)) (hL : heRow L (23 + r) (27 + r) h) (hLL : L.length ≤ 60) (hLo : ∀ x ∈ L, x.1 < 60 ∧ x.2 ≤ 99) (w8 w9 : Option Value) (kont : kx_X (l, g, m_Pe_hand, D, 0, 0, Q) 0 0 76 [some (.ref 14), some (.int (nI p)), some (.int (nI m)), some (.int (nI td)), some (.int (nI r)), some (.int (nI L.length)), some (.ref (27 + r)), some (.int (nI (sumP L L.length))), some (.int (nI L.length)), w8, w9] [] h) : ∀ n k, k + n = L.length → kx_X (l, g, m_Pe_hand, D, 0, 0, Q) 0 0 53 [some (.ref 14), some (.int (nI p)), some (.int (nI m)), some (.int (nI td)), some (.int (nI r)), some (.int (nI L.length)), some (.ref (27 + r)), some (.int (nI (sumP L k))), some (.int (nI k)), w8, w9] [] h := by
  have hrow := rowH hs hr
  intro n
  induction n with
  | zero =>
    intro k hk
    have hk0 : k = L.length := by omega
    subst hk0
    refine kx_iload (pc := 53) (kx_dd d_Pe_hand 31 rfl) rfl ?_
    refine kx_iload (pc := 55) (kx_dd d_Pe_hand 32 rfl) rfl ?_
    refine kx_icmp_ge (pc := 57) (tgt := 76) (kx_dd d_Pe_hand 33 rfl) rfl (fun c57 => ?_) (fun c57 => ?_)
    · exact kont
    · exact absurd (Int32.le_refl _) c57
  | succ n ih =>
    intro k hk
    obtain ⟨x, hx⟩ : ∃ x, L[k]? = some x := ⟨_, List.getElem?_eq_getElem (by omega)⟩
    have hxx := hL k x hx
    have hxo := hLo x (List.mem_of_getElem? hx)
    refine kx_iload (pc := 53) (kx_dd d_Pe_hand 31 rfl) rfl ?_
    refine kx_iload (pc := 55) (kx_dd d_Pe_hand 32 rfl) rfl ?_
    refine kx_icmp_ge (pc := 57) (tgt := 76) (kx_dd d_Pe_hand 33 rfl) rfl (fun c57 => ?_) (fun c57 => ?_)
    · exact absurd c57 (nI_ge (by omega) (by omega))
    · refine kx_iload (pc := 60) (kx_dd d_Pe_hand 34 rfl) rfl ?_
      refine kx_aload (pc := 62) (kx_dd d_Pe_hand 35 rfl) rfl ?_
      refine kx_iload (pc := 64) (kx_dd d_Pe_hand 36 rfl) rfl ?_
      refine kx_ialdn (pc := 66) k hrow.2.2.2 rfl (by omega) (by decide) (kx_dd d_Pe_hand 37 rfl) ?_
      refine kx_iadd (pc := 67) (kx_dd d_Pe_hand 38 rfl) ?_
      refine kx_istore_e (pc := 68) (lv' := [_, _, _, _, _, _, _, _, _, _, _]) (kx_dd d_Pe_hand 39 rfl) (Nat.le_of_ble_eq_true rfl) rfl ?_
      refine kx_iinc_e (pc := 70) (v := nI (k + 1)) (lv' := [_, _, _, _, _, _, _, _, _, _, _]) (kx_dd d_Pe_hand 40 rfl) rfl (Nat.le_of_ble_eq_true rfl) (nI_1 k) rfl ?_
      refine kx_goto (pc := 73) (tgt := 53) (kx_dd d_Pe_hand 41 rfl) rfl ?_
      have ih1 := ih (k + 1) (by omega)
      rw [sumP_s hx] at ih1
      rw [hxx.2, nI_add]
      exact ih1
theorem x_hand_l2 {l : Launch} {g : kx_G} {D : Nat} {Q : Option Value → kx_Mem → Prop} {h : kx_Mem} (hs : SC h) (s : PS) (p m td r : Nat) (hm : m < 2 ^ 31) (hr : r < 3) (L : List (Nat × Nat)) (hL : heRow L (23 + r) (27 + r) h) (hLL : L.length ≤ 60) (hLo : ∀ x ∈ L, x.1 < 60 ∧ x.2 ≤ 99) (w8 w9 : Option Value) (hW : 0 < sumP L L.length) (hW2 : sumP L L.length < 2 ^ 31) (hdv : ¬ (nI (sumP L L.length)).toInt64 = 0) (kont : kx_X (l, g, m_Pe_hand, D, 0, 0, Q) 0 0 126 [some (.ref 14), some (.int (nI p)), some (.int (nI m)), some (.int (nI td)), some (.int (nI r)), some (.int (nI L.length)), some (.ref (27 + r)), some (.int (nI (sumP L L.length))), some (.int (nI (m - quoP m (sumP L L.length) L L.length))), some (.int (nI L.length)), w9] [] h) : ∀ n k, k + n = L.length → kx_X (l, g, m_Pe_hand, D, 0, 0, Q) 0 0 94 [some (.ref 14), some (.int (nI p)), some (.int (nI m)), some (.int (nI td)), some (.int (nI r)), some (.int (nI L.length)), some (.ref (27 + r)), some (.int (nI (sumP L L.length))), some (.int (nI (m - quoP m (sumP L L.length) L k))), some (.int (nI k)), w9] [] h := by
  have hrow := rowH hs hr
  intro n
  induction n with
  | zero =>
    intro k hk
    have hk0 : k = L.length := by omega
    subst hk0
    refine kx_iload (pc := 94) (kx_dd d_Pe_hand 53 rfl) rfl ?_
    refine kx_iload (pc := 96) (kx_dd d_Pe_hand 54 rfl) rfl ?_
    refine kx_icmp_ge (pc := 98) (tgt := 126) (kx_dd d_Pe_hand 55 rfl) rfl (fun c98 => ?_) (fun c98 => ?_)
    · exact kont
    · exact absurd (Int32.le_refl _) c98
  | succ n ih =>
    intro k hk
    obtain ⟨x, hx⟩ : ∃ x, L[k]? = some x := ⟨_, List.getElem?_eq_getElem (by omega)⟩
    have hxx := hL k x hx
    have hxo := hLo x (List.mem_of_getElem? hx)
    refine kx_iload (pc := 94) (kx_dd d_Pe_hand 53 rfl) rfl ?_
    refine kx_iload (pc := 96) (kx_dd d_Pe_hand 54 rfl) rfl ?_
    refine kx_icmp_ge (pc := 98) (tgt := 126) (kx_dd d_Pe_hand 55 rfl) rfl (fun c98 => ?_) (fun c98 => ?_)
    · exact absurd c98 (nI_ge (by omega) (by omega))
    · refine kx_iload (pc := 101) (kx_dd d_Pe_hand 56 rfl) rfl ?_
      refine kx_iload_n (pc := 103) (kx_dd d_Pe_hand 57 rfl) rfl rfl ?_
      refine kx_i2l (pc := 104) (kx_dd d_Pe_hand 58 rfl) ?_
      refine kx_aload (pc := 105) (kx_dd d_Pe_hand 59 rfl) rfl ?_
      refine kx_iload (pc := 107) (kx_dd d_Pe_hand 60 rfl) rfl ?_
      refine kx_ialdn (pc := 109) k hrow.2.2.2 rfl (by omega) (by decide) (kx_dd d_Pe_hand 61 rfl) ?_
      refine kx_i2l (pc := 110) (kx_dd d_Pe_hand 62 rfl) ?_
      refine kx_lmul (pc := 111) (kx_dd d_Pe_hand 63 rfl) ?_
      refine kx_iload (pc := 112) (kx_dd d_Pe_hand 64 rfl) rfl ?_
      refine kx_i2l (pc := 114) (kx_dd d_Pe_hand 65 rfl) ?_
      refine kx_ldiv (pc := 115) (kx_dd d_Pe_hand 66 rfl) hdv ?_
      refine kx_l2i (pc := 116) (kx_dd d_Pe_hand 67 rfl) ?_
      refine kx_isub (pc := 117) (kx_dd d_Pe_hand 68 rfl) ?_
      refine kx_istore_e (pc := 118) (lv' := [_, _, _, _, _, _, _, _, _, _, _]) (kx_dd d_Pe_hand 69 rfl) (Nat.le_of_ble_eq_true rfl) rfl ?_
      refine kx_iinc_e (pc := 120) (v := nI (k + 1)) (lv' := [_, _, _, _, _, _, _, _, _, _, _]) (kx_dd d_Pe_hand 70 rfl) rfl (Nat.le_of_ble_eq_true rfl) (nI_1 k) rfl ?_
      refine kx_goto (pc := 123) (tgt := 94) (kx_dd d_Pe_hand 71 rfl) rfl ?_
      have ih1 := ih (k + 1) (by omega)
      have e1 := quoP_s (m := m) (W := sumP L L.length) hx
      have e2 := quoP_le (m := m) hW (k + 1) (by omega)
      have e3 := shareI (m := m) (x := x.2) (W := sumP L L.length) hm (by omega) hW (by omega)
      rw [hxx.2, e3, pk_sub (by omega), show m - quoP m (sumP L L.length) L k - m * x.2 / sumP L L.length = m - quoP m (sumP L L.length) L (k + 1) by omega]
      exact ih1
theorem dv_ne {W : Nat} (h0 : 0 < W) (hW : W < 2 ^ 31) : ¬ (nI W).toInt64 = 0 := by
  rw [nI_l hW, show (0 : Int64) = lN 0 from rfl, lN_eq hW (by decide)]
  omega
/-- a weaker promise -/
theorem kx_mono {l : Launch} {g : kx_G} {μ : kx_M} {d mc ms c sl pc : Nat} {Q Q' : Option Value → kx_Mem → Prop} {lv : List (Option Value)} {st : List Value} {h : kx_Mem} (hQ : ∀ v h, Q v h → Q' v h) (k : kx_X (l, g, μ, d, mc, ms, Q) c sl pc lv st h) : kx_X (l, g, μ, d, mc, ms, Q') c sl pc lv st h := by
  intro p e s m args below meth cc C H locs ls hR hL hl T hT X
  obtain ⟨t, a1, o, b1, b2, ⟨v, h', z1, z2, z3⟩, b4⟩ := k p e s m args below meth cc C H locs ls hR hL hl T hT X
  exact ⟨t, a1, o, b1, b2, ⟨v, h', z1, z2, hQ v h' z3⟩, b4⟩
theorem keepQ {s : PS} {td p m : Nat} {P : Nat → Prop} {h : kx_Mem} (hP : P 16) : (kx_setI h 16 p (h.1 16 p + nI m)).1 16 = puAdd (h.1 16) p m ∧ kx_Fp P h (kx_setI h 16 p (h.1 16 p + nI m)) := ⟨by funext q; unfold kx_setI puAdd; simp only [kx_up_at], kx_Fp.set hP⟩
theorem x_hand_l3 {l : Launch} {g : kx_G} {d : Nat} (s : PS) (ho : PSok s) (td : Nat) (htd : td < 2 ^ 31) (n r : Nat) (hrn : r + (n + 1) = 3) (IH : ∀ (h : kx_Mem), SC h → PSc s h → ∀ (p m : Nat), p < s.1 → m + n + 1 < 2 ^ 31 → kx_Sp l g m_Pe_hand [.ref 14, .int (nI p), .int (nI m), .int (nI td), .int (nI (r + 1))] h (d + n + 2) 0 0 (fun v h' => v = none ∧ h'.1 16 = handF s td n p m (h.1 16) ∧ kx_Fp (PH (r + 1)) h h')) {h : kx_Mem} (hs : SC h) (hp : PSc s h) (p m : Nat) (hm : m + (n + 1) + 1 < 2 ^ 31) (hW : 0 < sumP (heF s p td) (heF s p td).length) : ∀ c k, k + c = (heF s p td).length → ∀ w9 h2, heRow (heF s p td) (23 + r) (27 + r) h2 → h2.1 16 = hanK s td n m (heF s p td) (h.1 16) k → kx_Fp (PH r) h h2 → kx_X (l, g, m_Pe_hand, d + (n + 1) + 2, 0, 0, (fun v h' => v = none ∧ h'.1 16 = hanK s td n m (heF s p td) (h.1 16) (heF s p td).length ∧ kx_Fp (PH r) h h')) 0 0 129 [some (.ref 14), some (.int (nI p)), some (.int (nI m)), some (.int (nI td)), some (.int (nI r)), some (.int (nI (heF s p td).length)), some (.ref (27 + r)), some (.int (nI (sumP (heF s p td) (heF s p td).length))), some (.int (nI (m - quoP m (sumP (heF s p td) (heF s p td).length) (heF s p td) (heF s p td).length))), some (.int (nI k)), w9] [] h2 := by
  have hr : r < 3 := by omega
  have o4 : (heF s p td).length ≤ 60 := heK_len ho p td s.2.1 (Nat.le_refl _)
  have o5 : ∀ x ∈ heF s p td, x.1 < s.1 ∧ 1 ≤ x.2 ∧ x.2 ≤ 99 := (heK_ok ho p td s.2.1 (Nat.le_refl _)).2
  have o2 := ho.1
  have o6 : ∀ x ∈ heF s p td, x.1 < 60 ∧ x.2 ≤ 99 := fun x hx => by have := o5 x hx; omega
  have o7 := sumP_b o6 (heF s p td).length
  intro c
  induction c with
  | zero =>
    intro k hk w9 h2 hL hpu hf
    have hk0 : k = (heF s p td).length := by omega
    subst hk0
    have hs := hs.fp hf
    refine kx_iload (pc := 129) (kx_dd d_Pe_hand 74 rfl) rfl ?_
    refine kx_iload (pc := 131) (kx_dd d_Pe_hand 75 rfl) rfl ?_
    refine kx_icmp_ge (pc := 133) (tgt := 197) (kx_dd d_Pe_hand 76 rfl) rfl (fun c133 => ?_) (fun c133 => ?_)
    · refine kx_vret (pc := 197) rfl (kx_dd d_Pe_hand 113 rfl) (Nat.le_refl _) (Nat.le_refl _) ?_
      exact ⟨rfl, hpu, hf⟩
    · exact absurd (Int32.le_refl _) c133
  | succ c ih =>
    intro k hk w9 h2 hL hpu hf
    have hs2 := hs.fp hf
    have hp2 : PSc s h2 := hp.fp hf (by intro a ha; simp only [PH, List.mem_cons, List.not_mem_nil, or_false] at ha ⊢; omega)
    have hs := hs2
    have hrow := rowH hs hr
    obtain ⟨x, hx⟩ : ∃ x, (heF s p td)[k]? = some x := ⟨_, List.getElem?_eq_getElem (by omega)⟩
    have hxx := hL k x hx
    have hxo := o5 x (List.mem_of_getElem? hx)
    have hgd : (heF s p td).getD k (0, 0) = x := by simp [List.getD, hx]
    have hdv := dv_ne hW (by omega)
    have e3 := shareI (m := m) (x := x.2) (W := sumP (heF s p td) (heF s p td).length) (by omega) (by omega) hW (by omega)
    have e4 := quoP_le (m := m) hW (heF s p td).length (Nat.le_refl _)
    have e5 := shrP_le (m := m) (k := k) (L := heF s p td) (by omega) hW
    refine kx_iload (pc := 129) (kx_dd d_Pe_hand 74 rfl) rfl ?_
    refine kx_iload (pc := 131) (kx_dd d_Pe_hand 75 rfl) rfl ?_
    refine kx_icmp_ge (pc := 133) (tgt := 197) (kx_dd d_Pe_hand 76 rfl) rfl (fun c133 => ?_) (fun c133 => ?_)
    · exact absurd c133 (nI_ge (by omega) (by omega))
    · refine kx_iload_n (pc := 136) (kx_dd d_Pe_hand 77 rfl) rfl rfl ?_
      refine kx_i2l (pc := 137) (kx_dd d_Pe_hand 78 rfl) ?_
      refine kx_aload (pc := 138) (kx_dd d_Pe_hand 79 rfl) rfl ?_
      refine kx_iload (pc := 140) (kx_dd d_Pe_hand 80 rfl) rfl ?_
      refine kx_ialdn (pc := 142) k hrow.2.2.2 rfl (by omega) (by decide) (kx_dd d_Pe_hand 81 rfl) ?_
      refine kx_i2l (pc := 143) (kx_dd d_Pe_hand 82 rfl) ?_
      refine kx_lmul (pc := 144) (kx_dd d_Pe_hand 83 rfl) ?_
      refine kx_iload (pc := 145) (kx_dd d_Pe_hand 84 rfl) rfl ?_
      refine kx_i2l (pc := 147) (kx_dd d_Pe_hand 85 rfl) ?_
      refine kx_ldiv (pc := 148) (kx_dd d_Pe_hand 86 rfl) hdv ?_
      refine kx_l2i (pc := 149) (kx_dd d_Pe_hand 87 rfl) ?_
      refine kx_iload (pc := 150) (kx_dd d_Pe_hand 88 rfl) rfl ?_
      refine kx_iload (pc := 152) (kx_dd d_Pe_hand 89 rfl) rfl ?_
      refine kx_icmp_ge (pc := 154) (tgt := 161) (kx_dd d_Pe_hand 90 rfl) rfl (fun c154 => ?_) (fun c154 => ?_)
      · refine kx_iconst (pc := 161) (v := 0) (kx_dd d_Pe_hand 93 rfl) rfl ?_
        refine kx_iadd (pc := 162) (kx_dd d_Pe_hand 94 rfl) ?_
        rw [nI_leI (by omega) (by omega)] at c154
        have e6 : shrP m (heF s p td) k = m * x.2 / sumP (heF s p td) (heF s p td).length + 0 := by
          unfold shrP
          rw [hgd, if_neg (by omega)]
        have e7 : ((nI m).toInt64 * (h2.1 (27 + r) k).toInt64 / (nI (sumP (heF s p td) (heF s p td).length)).toInt64).toInt32 + 0 = nI (shrP m (heF s p td) k) := by
          rw [hxx.2, e3, e6]
          exact nI_add _ 0
        rw [e7]
        refine kx_istore_e (pc := 163) (lv' := [_, _, _, _, _, _, _, _, _, _, _]) (kx_dd d_Pe_hand 95 rfl) (Nat.le_of_ble_eq_true rfl) rfl ?_
        refine kx_iload (pc := 165) (kx_dd d_Pe_hand 96 rfl) rfl ?_
        refine kx_if_le (pc := 167) (tgt := 191) (kx_dd d_Pe_hand 97 rfl) rfl (fun c167 => ?_) (fun c167 => ?_)
        · refine kx_iinc_e (pc := 191) (v := nI (k + 1)) (lv' := [_, _, _, _, _, _, _, _, _, _, _]) (kx_dd d_Pe_hand 111 rfl) rfl (Nat.le_of_ble_eq_true rfl) (nI_1 k) rfl ?_
          refine kx_goto (pc := 194) (tgt := 129) (kx_dd d_Pe_hand 112 rfl) rfl ?_
          rw [show (0 : Int32) = nI 0 from rfl, nI_leI (by omega) (by omega)] at c167
          exact ih (k + 1) (by omega) _ h2 hL (by rw [hanK_s, if_neg (by omega)]; exact hpu) hf
        · refine kx_aload_n (pc := 170) (kx_dd d_Pe_hand 98 rfl) rfl rfl ?_
          refine kx_aload_n (pc := 171) (kx_dd d_Pe_hand 99 rfl) rfl rfl ?_
          refine kx_getR (pc := 172) (b := 22) fl_Pe_36 (hs.k 14 rfl) rfl (hs.r 26 rfl) (kx_dd d_Pe_hand 100 rfl) ?_
          refine kx_iload (pc := 175) (kx_dd d_Pe_hand 101 rfl) rfl ?_
          refine kx_aldn (pc := 177) (b := (23 + r)) r (hs.t 22 rfl) (by decide) rfl hr (by decide) hrow.1 (kx_dd d_Pe_hand 102 rfl) ?_
          refine kx_iload (pc := 178) (kx_dd d_Pe_hand 103 rfl) rfl ?_
          refine kx_ialdn (pc := 180) k hrow.2.2.1 rfl (by omega) (by decide) (kx_dd d_Pe_hand 104 rfl) ?_
          refine kx_iload (pc := 181) (kx_dd d_Pe_hand 105 rfl) rfl ?_
          refine kx_iload_n (pc := 183) (kx_dd d_Pe_hand 106 rfl) rfl rfl ?_
          refine kx_iload (pc := 184) (kx_dd d_Pe_hand 107 rfl) rfl ?_
          refine kx_iconst (pc := 186) (v := 1) (kx_dd d_Pe_hand 108 rfl) rfl ?_
          refine kx_iadd (pc := 187) (kx_dd d_Pe_hand 109 rfl) ?_
          rw [show (0 : Int32) = nI 0 from rfl, nI_leI (by omega) (by omega)] at c167
          have hpos : 0 < shrP m (heF s p td) k := by omega
          rw [hxx.1, show nI r + 1 = nI (r + 1) from nI_1 r]
          refine kx_invS (pc := 188) (as := [_, _, _, _, _]) (kx_dd d_Pe_hand 110 rfl) ⟨lk_Pe_66, wt_Pe_hand⟩ w_Pe_hand rfl rfl (Nat.le_of_ble_eq_true rfl) (IH h2 hs2 hp2 x.1 (shrP m (heF s p td) k) hxo.1 (by omega)) (Nat.le_refl _) ⟨Nat.le_refl _, Nat.le_refl _⟩ (fun v h' hq => ?_)
          obtain ⟨rfl, hqe, hfh⟩ := hq
          refine kx_iinc_e (pc := 191) (v := nI (k + 1)) (lv' := [_, _, _, _, _, _, _, _, _, _, _]) (kx_dd d_Pe_hand 111 rfl) rfl (Nat.le_of_ble_eq_true rfl) (nI_1 k) rfl ?_
          refine kx_goto (pc := 194) (tgt := 129) (kx_dd d_Pe_hand 112 rfl) rfl ?_
          exact ih (k + 1) (by omega) _ h' (hL.fp hfh (by simp only [PH]; omega) (by simp only [PH]; omega)) (by rw [hanK_s, if_pos hpos, hgd, ← hpu]; exact hqe) (hf.tr (hfh.mono (by intro a ha; simp only [PH] at ha ⊢; omega)))
      · refine kx_iconst (pc := 157) (v := 1) (kx_dd d_Pe_hand 91 rfl) rfl ?_
        refine kx_goto (pc := 158) (tgt := 162) (kx_dd d_Pe_hand 92 rfl) rfl ?_
        refine kx_iadd (pc := 162) (kx_dd d_Pe_hand 94 rfl) ?_
        rw [nI_leI (by omega) (by omega)] at c154
        have e6 : shrP m (heF s p td) k = m * x.2 / sumP (heF s p td) (heF s p td).length + 1 := by
          unfold shrP
          rw [hgd, if_pos (by omega)]
        have e7 : ((nI m).toInt64 * (h2.1 (27 + r) k).toInt64 / (nI (sumP (heF s p td) (heF s p td).length)).toInt64).toInt32 + 1 = nI (shrP m (heF s p td) k) := by
          rw [hxx.2, e3, e6]
          exact nI_add _ 1
        rw [e7]
        refine kx_istore_e (pc := 163) (lv' := [_, _, _, _, _, _, _, _, _, _, _]) (kx_dd d_Pe_hand 95 rfl) (Nat.le_of_ble_eq_true rfl) rfl ?_
        refine kx_iload (pc := 165) (kx_dd d_Pe_hand 96 rfl) rfl ?_
        refine kx_if_le (pc := 167) (tgt := 191) (kx_dd d_Pe_hand 97 rfl) rfl (fun c167 => ?_) (fun c167 => ?_)
        · refine kx_iinc_e (pc := 191) (v := nI (k + 1)) (lv' := [_, _, _, _, _, _, _, _, _, _, _]) (kx_dd d_Pe_hand 111 rfl) rfl (Nat.le_of_ble_eq_true rfl) (nI_1 k) rfl ?_
          refine kx_goto (pc := 194) (tgt := 129) (kx_dd d_Pe_hand 112 rfl) rfl ?_
          rw [show (0 : Int32) = nI 0 from rfl, nI_leI (by omega) (by omega)] at c167
          exact ih (k + 1) (by omega) _ h2 hL (by rw [hanK_s, if_neg (by omega)]; exact hpu) hf
        · refine kx_aload_n (pc := 170) (kx_dd d_Pe_hand 98 rfl) rfl rfl ?_
          refine kx_aload_n (pc := 171) (kx_dd d_Pe_hand 99 rfl) rfl rfl ?_
          refine kx_getR (pc := 172) (b := 22) fl_Pe_36 (hs.k 14 rfl) rfl (hs.r 26 rfl) (kx_dd d_Pe_hand 100 rfl) ?_
          refine kx_iload (pc := 175) (kx_dd d_Pe_hand 101 rfl) rfl ?_
          refine kx_aldn (pc := 177) (b := (23 + r)) r (hs.t 22 rfl) (by decide) rfl hr (by decide) hrow.1 (kx_dd d_Pe_hand 102 rfl) ?_
          refine kx_iload (pc := 178) (kx_dd d_Pe_hand 103 rfl) rfl ?_
          refine kx_ialdn (pc := 180) k hrow.2.2.1 rfl (by omega) (by decide) (kx_dd d_Pe_hand 104 rfl) ?_
          refine kx_iload (pc := 181) (kx_dd d_Pe_hand 105 rfl) rfl ?_
          refine kx_iload_n (pc := 183) (kx_dd d_Pe_hand 106 rfl) rfl rfl ?_
          refine kx_iload (pc := 184) (kx_dd d_Pe_hand 107 rfl) rfl ?_
          refine kx_iconst (pc := 186) (v := 1) (kx_dd d_Pe_hand 108 rfl) rfl ?_
          refine kx_iadd (pc := 187) (kx_dd d_Pe_hand 109 rfl) ?_
          rw [show (0 : Int32) = nI 0 from rfl, nI_leI (by omega) (by omega)] at c167
          have hpos : 0 < shrP m (heF s p td) k := by omega
          rw [hxx.1, show nI r + 1 = nI (r + 1) from nI_1 r]
          refine kx_invS (pc := 188) (as := [_, _, _, _, _]) (kx_dd d_Pe_hand 110 rfl) ⟨lk_Pe_66, wt_Pe_hand⟩ w_Pe_hand rfl rfl (Nat.le_of_ble_eq_true rfl) (IH h2 hs2 hp2 x.1 (shrP m (heF s p td) k) hxo.1 (by omega)) (Nat.le_refl _) ⟨Nat.le_refl _, Nat.le_refl _⟩ (fun v h' hq => ?_)
          obtain ⟨rfl, hqe, hfh⟩ := hq
          refine kx_iinc_e (pc := 191) (v := nI (k + 1)) (lv' := [_, _, _, _, _, _, _, _, _, _, _]) (kx_dd d_Pe_hand 111 rfl) rfl (Nat.le_of_ble_eq_true rfl) (nI_1 k) rfl ?_
          refine kx_goto (pc := 194) (tgt := 129) (kx_dd d_Pe_hand 112 rfl) rfl ?_
          exact ih (k + 1) (by omega) _ h' (hL.fp hfh (by simp only [PH]; omega) (by simp only [PH]; omega)) (by rw [hanK_s, if_pos hpos, hgd, ← hpu]; exact hqe) (hf.tr (hfh.mono (by intro a ha; simp only [PH] at ha ⊢; omega)))
theorem x_Pe_hand {l : Launch} {g : kx_G} {d : Nat} (s : PS) (ho : PSok s) (td : Nat) (htd : td < 2 ^ 31) : ∀ n r, r + n = 3 → ∀ (h : kx_Mem), SC h → PSc s h → ∀ (p m : Nat), p < s.1 → m + n + 1 < 2 ^ 31 → kx_Sp l g m_Pe_hand [.ref 14, .int (nI p), .int (nI m), .int (nI td), .int (nI r)] h (d + n + 2) 0 0 (fun v h' => v = none ∧ h'.1 16 = handF s td n p m (h.1 16) ∧ kx_Fp (PH r) h h') := by
  intro n
  induction n with
  | zero =>
    intro r hr h hs hp p m hp0 hm
    have hr3 : r = 3 := by omega
    subst hr3
    have o2 := ho.1
    refine kx_enter_e (lv := [_, _, _, _, _, _, _, _, _, _, _]) (by decide +kernel) (Nat.le_of_ble_eq_true rfl) rfl ?_
    refine kx_iload (pc := 0) (kx_dd d_Pe_hand 0 rfl) rfl ?_
    refine kx_if_lt (pc := 2) (tgt := 21) (kx_dd d_Pe_hand 1 rfl) rfl (fun c2 => ?_) (fun c2 => ?_)
    · exact absurd c2 (by decide)
    · refine kx_iload (pc := 5) (kx_dd d_Pe_hand 2 rfl) rfl ?_
      refine kx_iconst (pc := 7) (v := 3) (kx_dd d_Pe_hand 3 rfl) rfl ?_
      refine kx_icmp_ge (pc := 8) (tgt := 21) (kx_dd d_Pe_hand 4 rfl) rfl (fun c8 => ?_) (fun c8 => ?_)
      · refine kx_aload_n (pc := 21) (kx_dd d_Pe_hand 11 rfl) rfl rfl ?_
        refine kx_iload_n (pc := 22) (kx_dd d_Pe_hand 12 rfl) rfl rfl ?_
        refine kx_iload_n (pc := 23) (kx_dd d_Pe_hand 13 rfl) rfl rfl ?_
        refine kx_invV (pc := 24) (a := 14) (as := [_, _]) (kx_dd d_Pe_hand 14 rfl) ⟨lk_Pe_74, wi_Pe_keep, we_Pe_keep⟩ w_Pe_keep (hs.k 14 rfl) rfl rfl rfl rfl (Nat.le_of_ble_eq_true rfl) (x_Pe_keep (d := d) hs s ho hp p hp0 (nI m)) (Nat.le_refl _) ⟨Nat.le_refl _, Nat.le_refl _⟩ (fun v h' hq => ?_)
        obtain ⟨rfl, he⟩ := hq
        rw [he]
        clear he
        refine kx_vret (pc := 27) rfl (kx_dd d_Pe_hand 15 rfl) (Nat.le_refl _) (Nat.le_refl _) ?_
        exact ⟨rfl, (keepQ (s := s) (td := td) (P := PH 3) (Or.inl rfl)).1, (keepQ (s := s) (td := td) (P := PH 3) (Or.inl rfl)).2⟩
      · exact absurd (by decide) c8
  | succ n IH =>
    intro r hr h hs hp p m hp0 hm
    have o2 := ho.1
    have hr3 : r < 3 := by omega
    have IH1 := IH (r + 1) (by omega)
    refine kx_enter_e (lv := [_, _, _, _, _, _, _, _, _, _, _]) (by decide +kernel) (Nat.le_of_ble_eq_true rfl) rfl ?_
    refine kx_iload (pc := 0) (kx_dd d_Pe_hand 0 rfl) rfl ?_
    refine kx_if_lt (pc := 2) (tgt := 21) (kx_dd d_Pe_hand 1 rfl) rfl (fun c2 => ?_) (fun c2 => ?_)
    · exact absurd c2 (by rw [show (0 : Int32) = nI 0 from rfl, nI_ltI (by omega) (by omega)]; omega)
    · refine kx_iload (pc := 5) (kx_dd d_Pe_hand 2 rfl) rfl ?_
      refine kx_iconst (pc := 7) (v := 3) (kx_dd d_Pe_hand 3 rfl) rfl ?_
      refine kx_icmp_ge (pc := 8) (tgt := 21) (kx_dd d_Pe_hand 4 rfl) rfl (fun c8 => ?_) (fun c8 => ?_)
      · exact absurd c8 (nI_ge (b := 3) hr3 (by decide))
      · refine kx_aload_n (pc := 11) (kx_dd d_Pe_hand 5 rfl) rfl rfl ?_
        refine kx_iload_n (pc := 12) (kx_dd d_Pe_hand 6 rfl) rfl rfl ?_
        refine kx_iload_n (pc := 13) (kx_dd d_Pe_hand 7 rfl) rfl rfl ?_
        refine kx_iload_n (pc := 14) (kx_dd d_Pe_hand 8 rfl) rfl rfl ?_
        refine kx_invV (pc := 15) (a := 14) (as := [_, _, _]) (kx_dd d_Pe_hand 9 rfl) ⟨lk_Pe_70, wi_Pe_isDead, we_Pe_isDead⟩ w_Pe_isDead (hs.k 14 rfl) rfl rfl rfl rfl (Nat.le_of_ble_eq_true rfl) (x_Pe_isDead (d := d + n + 1) hs s ho hp p td td (by omega) htd htd) (Nat.le_refl _) ⟨Nat.le_refl _, Nat.le_refl _⟩ (fun v h' hq => ?_)
        obtain ⟨rfl, he⟩ := hq
        rw [he]
        clear he
        refine kx_if_ne (pc := 18) (tgt := 28) (kx_dd d_Pe_hand 10 rfl) rfl (fun c18 => ?_) (fun c18 => ?_)
        · refine kx_aload_n (pc := 28) (kx_dd d_Pe_hand 16 rfl) rfl rfl ?_
          refine kx_iload_n (pc := 29) (kx_dd d_Pe_hand 17 rfl) rfl rfl ?_
          refine kx_iload_n (pc := 30) (kx_dd d_Pe_hand 18 rfl) rfl rfl ?_
          refine kx_iload (pc := 31) (kx_dd d_Pe_hand 19 rfl) rfl ?_
          refine kx_invV (pc := 33) (a := 14) (as := [_, _, _]) (kx_dd d_Pe_hand 20 rfl) ⟨lk_Pe_57, wi_Pe_listHeirs, we_Pe_listHeirs⟩ w_Pe_listHeirs (hs.k 14 rfl) rfl rfl rfl rfl (Nat.le_of_ble_eq_true rfl) (x_Pe_listHeirs (d := d + n + 1) hs s ho hp p td r (by omega) htd hr3) (Nat.le_refl _) ⟨Nat.le_refl _, Nat.le_refl _⟩ (fun v h' hq => ?_)
          obtain ⟨rfl, hrw, hf⟩ := hq
          have hs1 := hs.fr hf
          have hs := hs1
          have hrow := rowH hs1 hr3
          have hp1 : PSc s h' := hp.fr hf (by intro a ha; simp at ha ⊢; omega)
          have o4 : (heF s p td).length ≤ 60 := heK_len ho p td s.2.1 (Nat.le_refl _)
          have o5 : ∀ x ∈ heF s p td, x.1 < s.1 ∧ 1 ≤ x.2 ∧ x.2 ≤ 99 := (heK_ok ho p td s.2.1 (Nat.le_refl _)).2
          have o6 : ∀ x ∈ heF s p td, x.1 < 60 ∧ x.2 ≤ 99 := fun x hx => by have := o5 x hx; omega
          have o7 := sumP_b o6 (heF s p td).length
          have h16 : h'.1 16 = h.1 16 := hf.2 16 (by simp; omega)
          have hff : kx_Fp (PH r) h h' := hf.p (by intro a ha; simp only [PH]; simp at ha; omega)
          refine kx_istore_e (pc := 36) (lv' := [_, _, _, _, _, _, _, _, _, _, _]) (kx_dd d_Pe_hand 21 rfl) (Nat.le_of_ble_eq_true rfl) rfl ?_
          refine kx_aload_n (pc := 38) (kx_dd d_Pe_hand 22 rfl) rfl rfl ?_
          refine kx_getR (pc := 39) (b := 26) fl_Pe_39 (hs.k 14 rfl) rfl (hs.r 27 rfl) (kx_dd d_Pe_hand 23 rfl) ?_
          refine kx_iload (pc := 42) (kx_dd d_Pe_hand 24 rfl) rfl ?_
          refine kx_aldn (pc := 44) (b := (27 + r)) r (hs.t 26 rfl) (by decide) rfl hr3 (by decide) hrow.2.1 (kx_dd d_Pe_hand 25 rfl) ?_
          refine kx_astore_e (pc := 45) (lv' := [_, _, _, _, _, _, _, _, _, _, _]) (kx_dd d_Pe_hand 26 rfl) (Nat.le_of_ble_eq_true rfl) rfl ?_
          refine kx_iconst (pc := 47) (v := 0) (kx_dd d_Pe_hand 27 rfl) rfl ?_
          refine kx_istore_e (pc := 48) (lv' := [_, _, _, _, _, _, _, _, _, _, _]) (kx_dd d_Pe_hand 28 rfl) (Nat.le_of_ble_eq_true rfl) rfl ?_
          refine kx_iconst (pc := 50) (v := 0) (kx_dd d_Pe_hand 29 rfl) rfl ?_
          refine kx_istore_e (pc := 51) (lv' := [_, _, _, _, _, _, _, _, _, _, _]) (kx_dd d_Pe_hand 30 rfl) (Nat.le_of_ble_eq_true rfl) rfl ?_
          refine x_hand_l1 hs1 s p m td r (by omega) hr3 (heF s p td) hrw o4 o6 none none ?_ (heF s p td).length 0 (by omega)
          refine kx_iload (pc := 76) (kx_dd d_Pe_hand 42 rfl) rfl ?_
          refine kx_if_gt (pc := 78) (tgt := 88) (kx_dd d_Pe_hand 43 rfl) rfl (fun c78 => ?_) (fun c78 => ?_)
          · have hW : 0 < sumP (heF s p td) (heF s p td).length := by
              rw [show (0 : Int32) = nI 0 from rfl, nI_ltI (by omega) (by omega)] at c78
              exact c78
            refine kx_iload_n (pc := 88) (kx_dd d_Pe_hand 49 rfl) rfl rfl ?_
            refine kx_istore_e (pc := 89) (lv' := [_, _, _, _, _, _, _, _, _, _, _]) (kx_dd d_Pe_hand 50 rfl) (Nat.le_of_ble_eq_true rfl) rfl ?_
            refine kx_iconst (pc := 91) (v := 0) (kx_dd d_Pe_hand 51 rfl) rfl ?_
            refine kx_istore_e (pc := 92) (lv' := [_, _, _, _, _, _, _, _, _, _, _]) (kx_dd d_Pe_hand 52 rfl) (Nat.le_of_ble_eq_true rfl) rfl ?_
            have hne : heF s p td ≠ [] := fun z => by rw [z] at hW; simp [sumP] at hW
            rw [bP_0, Classical.not_not] at c18
            have e1 : handF s td (n + 1) p m (h.1 16) = hanK s td n m (heF s p td) (h.1 16) (heF s p td).length := if_pos ⟨c18, hne⟩
            rw [e1, ← h16]
            have hdv := dv_ne hW (by omega)
            refine x_hand_l2 hs1 s p m td r (by omega) hr3 (heF s p td) hrw o4 o6 none none hW (by omega) hdv ?_ (heF s p td).length 0 (by omega)
            refine kx_iconst (pc := 126) (v := 0) (kx_dd d_Pe_hand 72 rfl) rfl ?_
            refine kx_istore_e (pc := 127) (lv' := [_, _, _, _, _, _, _, _, _, _, _]) (kx_dd d_Pe_hand 73 rfl) (Nat.le_of_ble_eq_true rfl) rfl ?_
            refine kx_mono ?_ (x_hand_l3 s ho td htd n r hr IH1 hs1 hp1 p m hm hW (heF s p td).length 0 (by omega) _ h' hrw rfl kx_Fp.rf)
            intro v h2 z
            exact ⟨z.1, z.2.1, hff.tr z.2.2⟩
          · have hz : heF s p td = [] := by
              rcases hL0 : heF s p td with _ | ⟨x, L⟩
              · rfl
              · exfalso
                rw [hL0] at c78 o5 o6 o7
                have h1 : sumP (x :: L) 1 = 0 + x.2 := by simp [sumP]
                have h2 := sumP_mono (L := x :: L) (show 1 ≤ (x :: L).length by simp)
                have h3 := (o5 x List.mem_cons_self).2.1
                have h4 : (x :: L).length ≤ 60 := by rw [← hL0]; exact o4
                rw [show (0 : Int32) = nI 0 from rfl, nI_ltI (by omega) (by omega)] at c78
                omega
            refine kx_aload_n (pc := 81) (kx_dd d_Pe_hand 44 rfl) rfl rfl ?_
            refine kx_iload_n (pc := 82) (kx_dd d_Pe_hand 45 rfl) rfl rfl ?_
            refine kx_iload_n (pc := 83) (kx_dd d_Pe_hand 46 rfl) rfl rfl ?_
            refine kx_invV (pc := 84) (a := 14) (as := [_, _]) (kx_dd d_Pe_hand 47 rfl) ⟨lk_Pe_74, wi_Pe_keep, we_Pe_keep⟩ w_Pe_keep (hs1.k 14 rfl) rfl rfl rfl rfl (Nat.le_of_ble_eq_true rfl) (x_Pe_keep (d := d + (n + 1)) hs1 s ho hp1 p hp0 (nI m)) (Nat.le_refl _) ⟨Nat.le_refl _, Nat.le_refl _⟩ (fun v h' hq => ?_)
            obtain ⟨rfl, he⟩ := hq
            rw [he]
            clear he
            refine kx_vret (pc := 87) rfl (kx_dd d_Pe_hand 48 rfl) (Nat.le_refl _) (Nat.le_refl _) ?_
            have e1 : handF s td (n + 1) p m (h.1 16) = puAdd (h.1 16) p m := if_neg (fun z => z.2 hz)
            rw [e1, ← h16]
            exact ⟨rfl, (keepQ (s := s) (td := td) (P := PH r) (Or.inl rfl)).1, hff.tr (keepQ (s := s) (td := td) (P := PH r) (Or.inl rfl)).2⟩
        · refine kx_aload_n (pc := 21) (kx_dd d_Pe_hand 11 rfl) rfl rfl ?_
          refine kx_iload_n (pc := 22) (kx_dd d_Pe_hand 12 rfl) rfl rfl ?_
          refine kx_iload_n (pc := 23) (kx_dd d_Pe_hand 13 rfl) rfl rfl ?_
          refine kx_invV (pc := 24) (a := 14) (as := [_, _]) (kx_dd d_Pe_hand 14 rfl) ⟨lk_Pe_74, wi_Pe_keep, we_Pe_keep⟩ w_Pe_keep (hs.k 14 rfl) rfl rfl rfl rfl (Nat.le_of_ble_eq_true rfl) (x_Pe_keep (d := d + (n + 1)) hs s ho hp p hp0 (nI m)) (Nat.le_refl _) ⟨Nat.le_refl _, Nat.le_refl _⟩ (fun v h' hq => ?_)
          obtain ⟨rfl, he⟩ := hq
          rw [he]
          clear he
          refine kx_vret (pc := 27) rfl (kx_dd d_Pe_hand 15 rfl) (Nat.le_refl _) (Nat.le_refl _) ?_
          rw [bP_0] at c18
          have e1 : handF s td (n + 1) p m (h.1 16) = puAdd (h.1 16) p m := if_neg (fun z => c18 z.1)
          rw [e1]
          exact ⟨rfl, (keepQ (s := s) (td := td) (P := PH r) (Or.inl rfl)).1, (keepQ (s := s) (td := td) (P := PH r) (Or.inl rfl)).2⟩
theorem x_Pe_receive {l : Launch} {g : kx_G} {d : Nat} {h : kx_Mem} (hs : SC h) (s : PS) (ho : PSok s) (hp : PSc s h) (td : Nat) (htd : td < 2 ^ 31) (p m : Nat) (hp0 : p < s.1) (hm : m + 4 < 2 ^ 31) : kx_Sp l g m_Pe_receive [.ref 14, .int (nI p), .int (nI m), .int (nI td)] h (d + 6) 0 0 (fun v h' => v = none ∧ h'.1 16 = handF s td 3 p m (h.1 16) ∧ kx_Fp (PH 0) h h') := by
  refine kx_enter_e (lv := [_, _, _, _]) (by decide +kernel) (Nat.le_of_ble_eq_true rfl) rfl ?_
  refine kx_aload_n (pc := 0) (kx_dd d_Pe_receive 0 rfl) rfl rfl ?_
  refine kx_iload_n (pc := 1) (kx_dd d_Pe_receive 1 rfl) rfl rfl ?_
  refine kx_iload_n (pc := 2) (kx_dd d_Pe_receive 2 rfl) rfl rfl ?_
  refine kx_iload_n (pc := 3) (kx_dd d_Pe_receive 3 rfl) rfl rfl ?_
  refine kx_iconst (pc := 4) (v := 0) (kx_dd d_Pe_receive 4 rfl) rfl ?_
  refine kx_invS (pc := 5) (as := [_, _, _, _, _]) (kx_dd d_Pe_receive 5 rfl) ⟨lk_Pe_66, wt_Pe_hand⟩ w_Pe_hand rfl rfl (Nat.le_of_ble_eq_true rfl) (x_Pe_hand (d := d) s ho td htd 3 0 rfl h hs hp p m hp0 hm) (Nat.le_refl _) ⟨Nat.le_refl _, Nat.le_refl _⟩ (fun v h' hq => ?_)
  obtain ⟨rfl, hq⟩ := hq
  refine kx_vret (pc := 8) rfl (kx_dd d_Pe_receive 6 rfl) (Nat.le_refl _) (Nat.le_refl _) ?_
  exact ⟨rfl, hq⟩
