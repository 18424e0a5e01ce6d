/-! the class: People (object 14) -/
noncomputable def bP (c : Prop) : Int32 := @ite Int32 c (Classical.propDecidable c) 1 0
theorem bP_t {c : Prop} (h : c) : bP c = 1 := if_pos h
theorem bP_f {c : Prop} (h : ¬ c) : bP c = 0 := if_neg h
theorem bP_0 {c : Prop} : bP c = 0 ↔ ¬ c := by
  by_cases h : c
  · rw [bP_t h]; simp [h]
  · rw [bP_f h]; simp [h]
theorem bP_1 {c : Prop} : bP c = 1 ↔ c := by
  by_cases h : c
  · rw [bP_t h]; simp [h]
  · rw [bP_f h]; simp [h]
theorem bP_c {c c' : Prop} (h : c ↔ c') : bP c = bP c' := by rw [propext h]
theorem nI_lt_p {a b : Nat} (ha : a < 2 ^ 30) (hb : b < 2 ^ 30) : nI a < nI b - 1 ↔ a + 1 < b := by
  rw [Int32.lt_iff_toInt_lt, nI_toInt (by omega), show (1 : Int32) = nI 1 from rfl, pk_sub_toInt hb (by omega)]
  omega
/-- only ints of some objects have changed -/
def kx_Fr (X : List Nat) (h h' : kx_Mem) : Prop := h'.2 = h.2 ∧ ∀ a, a ∉ X → h'.1 a = h.1 a
theorem kx_Fr.rf {X : List Nat} {h : kx_Mem} : kx_Fr X h h := ⟨rfl, fun _ _ => rfl⟩
theorem kx_Fr.tr {X : List Nat} {h h1 h2 : kx_Mem} (a : kx_Fr X h h1) (b : kx_Fr X h1 h2) : kx_Fr X h h2 := ⟨b.1.trans a.1, fun x hx => (b.2 x hx).trans (a.2 x hx)⟩
theorem kx_Fr.set {X : List Nat} {h : kx_Mem} {a j : Nat} {v : Int32} (ha : a ∈ X) : kx_Fr X h (kx_setI h a j v) := ⟨rfl, fun b hb => by
  funext k
  exact kx_up_ne (fun e => hb (e ▸ ha))⟩
theorem kx_Fr.mono {X Y : List Nat} {h h' : kx_Mem} (hf : kx_Fr X h h') (hXY : ∀ a ∈ X, a ∈ Y) : kx_Fr Y h h' := ⟨hf.1, fun a ha => hf.2 a (fun q => ha (hXY a q))⟩
theorem kx_SS.fr {R T : List (Nat × Nat × Nat)} {X : List Nat} {h h' : kx_Mem} (hs : kx_SS R T h) (hf : kx_Fr X h h') : kx_SS R T h' := by
  unfold kx_SS
  rw [hf.1]
  exact hs
theorem x_Pe_has {l : Launch} {g : kx_G} {d : Nat} {h : kx_Mem} (hs : SC h) (p : Int32) : kx_Sp l g m_Pe_has [.ref 14, .int p] h (d) 0 0 (fun v h' => v = some (.int (bP (0 ≤ p ∧ p < h.1 14 0))) ∧ h' = h) := by
  refine kx_enter_e (lv := [_, _]) (by decide +kernel) (Nat.le_of_ble_eq_true rfl) rfl ?_
  refine kx_iload_n (pc := 0) (kx_dd d_Pe_has 0 rfl) rfl rfl ?_
  refine kx_if_lt (pc := 1) (tgt := 16) (kx_dd d_Pe_has 1 rfl) rfl (fun c1 => ?_) (fun c1 => ?_)
  · refine kx_iconst (pc := 16) (v := 0) (kx_dd d_Pe_has 8 rfl) rfl ?_
    refine kx_zret (pc := 17) rfl rfl (kx_dd d_Pe_has 9 rfl) (Nat.le_refl _) (Nat.le_refl _) ?_
    exact ⟨by grind [bP], rfl⟩
  · refine kx_iload_n (pc := 4) (kx_dd d_Pe_has 2 rfl) rfl rfl ?_
    refine kx_aload_n (pc := 5) (kx_dd d_Pe_has 3 rfl) rfl rfl ?_
    refine kx_getI (pc := 6) fl_Pe_42 (hs.k 14 rfl) rfl (kx_dd d_Pe_has 4 rfl) ?_
    refine kx_icmp_ge (pc := 9) (tgt := 16) (kx_dd d_Pe_has 5 rfl) rfl (fun c9 => ?_) (fun c9 => ?_)
    · refine kx_iconst (pc := 16) (v := 0) (kx_dd d_Pe_has 8 rfl) rfl ?_
      refine kx_zret (pc := 17) rfl rfl (kx_dd d_Pe_has 9 rfl) (Nat.le_refl _) (Nat.le_refl _) ?_
      exact ⟨by grind [bP], rfl⟩
    · refine kx_iconst (pc := 12) (v := 1) (kx_dd d_Pe_has 6 rfl) rfl ?_
      refine kx_goto (pc := 13) (tgt := 17) (kx_dd d_Pe_has 7 rfl) rfl ?_
      refine kx_zret (pc := 17) rfl rfl (kx_dd d_Pe_has 9 rfl) (Nat.le_refl _) (Nat.le_refl _) ?_
      exact ⟨by grind [bP], rfl⟩
theorem x_Pe_add {l : Launch} {g : kx_G} {d : Nat} {h : kx_Mem} (hs : SC h) : kx_Sp l g m_Pe_add [.ref 14] h (d) 0 0 (fun v h' => v = some (.int (if 60 ≤ h.1 14 0 then -3 else h.1 14 0)) ∧ h' = (if 60 ≤ h.1 14 0 then h else kx_setI h 14 0 (h.1 14 0 + 1))) := by
  refine kx_enter_e (lv := [_]) (by decide +kernel) (Nat.le_of_ble_eq_true rfl) rfl ?_
  refine kx_aload_n (pc := 0) (kx_dd d_Pe_add 0 rfl) rfl rfl ?_
  refine kx_getI (pc := 1) fl_Pe_42 (hs.k 14 rfl) rfl (kx_dd d_Pe_add 1 rfl) ?_
  refine kx_bipush (pc := 4) (v := 60) (kx_dd d_Pe_add 2 rfl) rfl ?_
  refine kx_icmp_lt (pc := 6) (tgt := 12) (kx_dd d_Pe_add 3 rfl) rfl (fun c6 => ?_) (fun c6 => ?_)
  · refine kx_aload_n (pc := 12) (kx_dd d_Pe_add 6 rfl) rfl rfl ?_
    refine kx_dup (pc := 13) (kx_dd d_Pe_add 7 rfl) rfl ?_
    refine kx_getI (pc := 14) fl_Pe_42 (hs.k 14 rfl) rfl (kx_dd d_Pe_add 8 rfl) ?_
    refine kx_iconst (pc := 17) (v := 1) (kx_dd d_Pe_add 9 rfl) rfl ?_
    refine kx_iadd (pc := 18) (kx_dd d_Pe_add 10 rfl) ?_
    refine kx_putI (pc := 19) fl_Pe_42 (hs.k 14 rfl) (by decide) rfl rfl (kx_dd d_Pe_add 11 rfl) ?_
    refine kx_aload_n (pc := 22) (kx_dd d_Pe_add 12 rfl) rfl rfl ?_
    refine kx_getI (pc := 23) fl_Pe_42 (hs.k 14 rfl) rfl (kx_dd d_Pe_add 13 rfl) ?_
    refine kx_iconst (pc := 26) (v := 1) (kx_dd d_Pe_add 14 rfl) rfl ?_
    refine kx_isub (pc := 27) (kx_dd d_Pe_add 15 rfl) ?_
    refine kx_iret (pc := 28) rfl (kx_dd d_Pe_add 16 rfl) (Nat.le_refl _) (Nat.le_refl _) ?_
    exact ⟨by simp [kx_setI, kx_up] <;> grind, by grind⟩
  · refine kx_bipush (pc := 9) (v := -3) (kx_dd d_Pe_add 4 rfl) rfl ?_
    refine kx_iret (pc := 11) rfl (kx_dd d_Pe_add 5 rfl) (Nat.le_refl _) (Nat.le_refl _) ?_
    exact ⟨by simp [kx_setI, kx_up] <;> grind, by grind⟩
/-- what is told of people: how many persons, how many tellings; of each its kind, of whom, known from, first day (heir), what (nation, parts) -/
abbrev PS : Type := Nat × Nat × (Nat → Nat) × (Nat → Nat) × (Nat → Nat) × (Nat → Nat) × (Nat → Nat)
def PSok (s : PS) : Prop := s.1 ≤ 60 ∧ s.2.1 ≤ 200 ∧ ∀ k, k < s.2.1 → s.2.2.1 k ≤ 2 ∧ s.2.2.2.1 k < s.1 ∧ s.2.2.2.2.1 k ≤ 1999 ∧ s.2.2.2.2.2.1 k ≤ 1999 ∧ s.2.2.2.2.2.2 k ≤ 99 ∧ (s.2.2.1 k = 2 → s.2.2.2.2.2.1 k < s.1 ∧ 1 ≤ s.2.2.2.2.2.2 k) ∧ (s.2.2.1 k = 0 → s.2.2.2.2.2.2 k ≤ 3)
def PSc (s : PS) (h : kx_Mem) : Prop := h.1 14 0 = nI s.1 ∧ h.1 14 3 = nI s.2.1 ∧ ∀ k, k < s.2.1 → h.1 17 k = nI (s.2.2.1 k) ∧ h.1 18 k = nI (s.2.2.2.1 k) ∧ h.1 19 k = nI (s.2.2.2.2.1 k) ∧ h.1 20 k = nI (s.2.2.2.2.2.1 k) ∧ h.1 21 k = nI (s.2.2.2.2.2.2 k)
/-- is telling k of that kind, of that person, known by then -/
def toldP (s : PS) (k c p kn : Nat) : Prop := s.2.2.1 k = c ∧ s.2.2.2.1 k = p ∧ s.2.2.2.2.1 k ≤ kn
theorem PSc.fr {s : PS} {X : List Nat} {h h' : kx_Mem} (hp : PSc s h) (hf : kx_Fr X h h') (hX : ∀ a ∈ [14, 17, 18, 19, 20, 21], a ∉ X) : PSc s h' := by
  unfold PSc
  rw [hf.2 14 (hX 14 (by decide)), hf.2 17 (hX 17 (by decide)), hf.2 18 (hX 18 (by decide)), hf.2 19 (hX 19 (by decide)), hf.2 20 (hX 20 (by decide)), hf.2 21 (hX 21 (by decide))]
  exact hp
theorem x_Pe_isTold {l : Launch} {g : kx_G} {d : Nat} {h : kx_Mem} (hs : SC h) (s : PS) (ho : PSok s) (hp : PSc s h) (k c p kn : Nat) (hk : k < s.2.1) (hc : c ≤ 2) (hpp : p < 2 ^ 31) (hkn : kn < 2 ^ 31) : kx_Sp l g m_Pe_isTold [.ref 14, .int (nI k), .int (nI c), .int (nI p), .int (nI kn)] h (d) 0 0 (fun v h' => v = some (.int (bP (toldP s k c p kn))) ∧ h' = h) := by
  obtain ⟨q1, q2, q3, q4, q5⟩ := hp.2.2 k (by omega)
  have o1 := ho.2.2 k (by omega)
  have o2 := ho.1
  have o3 := ho.2.1
  refine kx_enter_e (lv := [_, _, _, _, _]) (by decide +kernel) (Nat.le_of_ble_eq_true rfl) rfl ?_
  refine kx_aload_n (pc := 0) (kx_dd d_Pe_isTold 0 rfl) rfl rfl ?_
  refine kx_getR (pc := 1) (b := 17) fl_Pe_19 (hs.k 14 rfl) rfl (hs.r 21 rfl) (kx_dd d_Pe_isTold 1 rfl) ?_
  refine kx_iload_n (pc := 4) (kx_dd d_Pe_isTold 2 rfl) rfl rfl ?_
  refine kx_ialdn (pc := 5) k (hs.t 17 rfl) rfl (by omega) (by decide) (kx_dd d_Pe_isTold 3 rfl) ?_
  refine kx_iload_n (pc := 6) (kx_dd d_Pe_isTold 4 rfl) rfl rfl ?_
  refine kx_icmp_ne (pc := 7) (tgt := 35) (kx_dd d_Pe_isTold 5 rfl) rfl (fun c7 => ?_) (fun c7 => ?_)
  · refine kx_iconst (pc := 35) (v := 0) (kx_dd d_Pe_isTold 20 rfl) rfl ?_
    refine kx_zret (pc := 36) rfl rfl (kx_dd d_Pe_isTold 21 rfl) (Nat.le_refl _) (Nat.le_refl _) ?_
    refine ⟨?_, rfl⟩
    simp (disch := omega) only [q1, q2, q3, bP_0, bP_1, nI_eq, nI_ltI, nI_leI, nI_lt_p] at c7
    first | (rw [bP_t (show toldP s k c p kn from ⟨by omega, by omega, by omega⟩)]) | (rw [bP_f (show ¬ toldP s k c p kn from fun z => by unfold toldP at z; omega)])
  · refine kx_aload_n (pc := 10) (kx_dd d_Pe_isTold 6 rfl) rfl rfl ?_
    refine kx_getR (pc := 11) (b := 18) fl_Pe_22 (hs.k 14 rfl) rfl (hs.r 22 rfl) (kx_dd d_Pe_isTold 7 rfl) ?_
    refine kx_iload_n (pc := 14) (kx_dd d_Pe_isTold 8 rfl) rfl rfl ?_
    refine kx_ialdn (pc := 15) k (hs.t 18 rfl) rfl (by omega) (by decide) (kx_dd d_Pe_isTold 9 rfl) ?_
    refine kx_iload_n (pc := 16) (kx_dd d_Pe_isTold 10 rfl) rfl rfl ?_
    refine kx_icmp_ne (pc := 17) (tgt := 35) (kx_dd d_Pe_isTold 11 rfl) rfl (fun c17 => ?_) (fun c17 => ?_)
    · refine kx_iconst (pc := 35) (v := 0) (kx_dd d_Pe_isTold 20 rfl) rfl ?_
      refine kx_zret (pc := 36) rfl rfl (kx_dd d_Pe_isTold 21 rfl) (Nat.le_refl _) (Nat.le_refl _) ?_
      refine ⟨?_, rfl⟩
      simp (disch := omega) only [q1, q2, q3, bP_0, bP_1, nI_eq, nI_ltI, nI_leI, nI_lt_p] at c7 c17
      first | (rw [bP_t (show toldP s k c p kn from ⟨by omega, by omega, by omega⟩)]) | (rw [bP_f (show ¬ toldP s k c p kn from fun z => by unfold toldP at z; omega)])
    · refine kx_aload_n (pc := 20) (kx_dd d_Pe_isTold 12 rfl) rfl rfl ?_
      refine kx_getR (pc := 21) (b := 19) fl_Pe_25 (hs.k 14 rfl) rfl (hs.r 23 rfl) (kx_dd d_Pe_isTold 13 rfl) ?_
      refine kx_iload_n (pc := 24) (kx_dd d_Pe_isTold 14 rfl) rfl rfl ?_
      refine kx_ialdn (pc := 25) k (hs.t 19 rfl) rfl (by omega) (by decide) (kx_dd d_Pe_isTold 15 rfl) ?_
      refine kx_iload (pc := 26) (kx_dd d_Pe_isTold 16 rfl) rfl ?_
      refine kx_icmp_gt (pc := 28) (tgt := 35) (kx_dd d_Pe_isTold 17 rfl) rfl (fun c28 => ?_) (fun c28 => ?_)
      · refine kx_iconst (pc := 35) (v := 0) (kx_dd d_Pe_isTold 20 rfl) rfl ?_
        refine kx_zret (pc := 36) rfl rfl (kx_dd d_Pe_isTold 21 rfl) (Nat.le_refl _) (Nat.le_refl _) ?_
        refine ⟨?_, rfl⟩
        simp (disch := omega) only [q1, q2, q3, bP_0, bP_1, nI_eq, nI_ltI, nI_leI, nI_lt_p] at c7 c17 c28
        first | (rw [bP_t (show toldP s k c p kn from ⟨by omega, by omega, by omega⟩)]) | (rw [bP_f (show ¬ toldP s k c p kn from fun z => by unfold toldP at z; omega)])
      · refine kx_iconst (pc := 31) (v := 1) (kx_dd d_Pe_isTold 18 rfl) rfl ?_
        refine kx_goto (pc := 32) (tgt := 36) (kx_dd d_Pe_isTold 19 rfl) rfl ?_
        refine kx_zret (pc := 36) rfl rfl (kx_dd d_Pe_isTold 21 rfl) (Nat.le_refl _) (Nat.le_refl _) ?_
        refine ⟨?_, rfl⟩
        simp (disch := omega) only [q1, q2, q3, bP_0, bP_1, nI_eq, nI_ltI, nI_leI, nI_lt_p] at c7 c17 c28
        first | (rw [bP_t (show toldP s k c p kn from ⟨by omega, by omega, by omega⟩)]) | (rw [bP_f (show ¬ toldP s k c p kn from fun z => by unfold toldP at z; omega)])
/-- the nation for a day, as known: of the first k tellings the latest, and one more than its first day (0: none) -/
noncomputable def natK (s : PS) (p day kn : Nat) : Nat → Nat × Nat
  | 0 => (0, 0)
  | k + 1 => @ite _ (toldP s k 0 p kn ∧ s.2.2.2.2.2.1 k ≤ day ∧ (natK s p day kn k).2 ≤ s.2.2.2.2.2.1 k + 1) (Classical.propDecidable _) (s.2.2.2.2.2.2 k, s.2.2.2.2.2.1 k + 1) (natK s p day kn k)
noncomputable def natF (s : PS) (p day kn : Nat) : Nat := (natK s p day kn s.2.1).1
theorem natK_le {s : PS} (ho : PSok s) {p day kn : Nat} : ∀ k, k ≤ s.2.1 → (natK s p day kn k).1 ≤ 3 ∧ (natK s p day kn k).2 ≤ 2000
  | 0, _ => by simp [natK]
  | k + 1, hk => by
    have h1 := natK_le ho (p := p) (day := day) (kn := kn) k (by omega)
    have h2 := ho.2.2 k (by omega)
    unfold natK
    split
    next c =>
      have := c.1.1
      simp only
      omega
    next => exact h1
theorem natF_le {s : PS} (ho : PSok s) {p day kn : Nat} : natF s p day kn ≤ 3 := (natK_le ho s.2.1 (Nat.le_refl _)).1
theorem x_Pe_nationFor_loop {l : Launch} {g : kx_G} {d : Nat} {h : kx_Mem} (hs : SC h) (s : PS) (ho : PSok s) (hp : PSc s h) (p day kn : Nat) (hpp : p < 2 ^ 31) (hday : day < 2 ^ 31) (hkn : kn < 2 ^ 31) : ∀ n k, k + n = s.2.1 →  kx_X (l, g, m_Pe_nationFor, d + 1, 0, 0, (fun v h' => v = some (.int (nI (natF s p day kn))) ∧ h' = h)) 0 0 9 [some (.ref 14), some (.int (nI p)), some (.int (nI day)), some (.int (nI kn)), some (.int (nI (natK s p day kn k).1)), some (.int (nI (natK s p day kn k).2 - 1)), some (.int (nI k))] [] (h) := by
  intro n
  induction n with
  | zero =>
    intro k hk 
    have hk0 : k = s.2.1 := by omega
    subst hk0
    refine kx_iload (pc := 9) (kx_dd d_Pe_nationFor 6 rfl) rfl ?_
    refine kx_aload_n (pc := 11) (kx_dd d_Pe_nationFor 7 rfl) rfl rfl ?_
    refine kx_getI (pc := 12) fl_Pe_46 (hs.k 14 rfl) rfl (kx_dd d_Pe_nationFor 8 rfl) ?_
    refine kx_icmp_ge (pc := 15) (tgt := 77) (kx_dd d_Pe_nationFor 9 rfl) rfl (fun c15 => ?_) (fun c15 => ?_)
    · refine kx_iload (pc := 77) (kx_dd d_Pe_nationFor 41 rfl) rfl ?_
      refine kx_iret (pc := 79) rfl (kx_dd d_Pe_nationFor 42 rfl) (Nat.le_refl _) (Nat.le_refl _) ?_
      exact ⟨rfl, rfl⟩
    · exact absurd (by rw [hp.2.1]; exact Int32.le_refl _) c15
  | succ n ih =>
    intro k hk 
    obtain ⟨q1, q2, q3, q4, q5⟩ := hp.2.2 k (by omega)
    have o1 := ho.2.2 k (by omega)
    have o2 := ho.1
    have o3 := ho.2.1
    have o4 := natK_le ho (p := p) (day := day) (kn := kn) k (by omega)
    refine kx_iload (pc := 9) (kx_dd d_Pe_nationFor 6 rfl) rfl ?_
    refine kx_aload_n (pc := 11) (kx_dd d_Pe_nationFor 7 rfl) rfl rfl ?_
    refine kx_getI (pc := 12) fl_Pe_46 (hs.k 14 rfl) rfl (kx_dd d_Pe_nationFor 8 rfl) ?_
    refine kx_icmp_ge (pc := 15) (tgt := 77) (kx_dd d_Pe_nationFor 9 rfl) rfl (fun c15 => ?_) (fun c15 => ?_)
    · exact absurd c15 (by rw [hp.2.1]; exact nI_ge (by omega) (by omega))
    · refine kx_aload_n (pc := 18) (kx_dd d_Pe_nationFor 10 rfl) rfl rfl ?_
      refine kx_iload (pc := 19) (kx_dd d_Pe_nationFor 11 rfl) rfl ?_
      refine kx_iconst (pc := 21) (v := 0) (kx_dd d_Pe_nationFor 12 rfl) rfl ?_
      refine kx_iload_n (pc := 22) (kx_dd d_Pe_nationFor 13 rfl) rfl rfl ?_
      refine kx_iload_n (pc := 23) (kx_dd d_Pe_nationFor 14 rfl) rfl rfl ?_
      refine kx_invV (pc := 24) (a := 14) (as := [_, _, _, _]) (kx_dd d_Pe_nationFor 15 rfl) ⟨lk_Pe_49, wi_Pe_isTold, we_Pe_isTold⟩ w_Pe_isTold (hs.k 14 rfl) rfl rfl rfl rfl (by decide) (x_Pe_isTold (d := d) hs s ho hp k 0 p kn (by omega) (by decide) hpp hkn) (Nat.le_refl _) ⟨Nat.le_refl _, Nat.le_refl _⟩ (fun v h' hq => ?_)
      obtain ⟨rfl, he⟩ := hq
      rw [he]
      clear he
      refine kx_if_eq (pc := 27) (tgt := 71) (kx_dd d_Pe_nationFor 16 rfl) rfl (fun c27 => ?_) (fun c27 => ?_)
      · refine kx_iinc_e (pc := 71) (v := nI (k + 1)) (lv' := [_, _, _, _, _, _, _]) (kx_dd d_Pe_nationFor 39 rfl) rfl (Nat.le_of_ble_eq_true rfl) (nI_1 k) rfl ?_
        refine kx_goto (pc := 74) (tgt := 9) (kx_dd d_Pe_nationFor 40 rfl) rfl ?_
        simp (disch := omega) only [q4, bP_0, bP_1, nI_eq, nI_ltI, nI_leI, nI_lt_p] at c27
        have e1 : natK s p day kn (k + 1) = natK s p day kn k := if_neg (fun z => by exact c27 z.1)
        have ih1 := ih (k + 1) (by omega)
        rw [e1] at ih1
        exact ih1
      · refine kx_aload_n (pc := 30) (kx_dd d_Pe_nationFor 17 rfl) rfl rfl ?_
        refine kx_getR (pc := 31) (b := 20) fl_Pe_28 (hs.k 14 rfl) rfl (hs.r 24 rfl) (kx_dd d_Pe_nationFor 18 rfl) ?_
        refine kx_iload (pc := 34) (kx_dd d_Pe_nationFor 19 rfl) rfl ?_
        refine kx_ialdn (pc := 36) k (hs.t 20 rfl) rfl (by omega) (by decide) (kx_dd d_Pe_nationFor 20 rfl) ?_
        refine kx_iload_n (pc := 37) (kx_dd d_Pe_nationFor 21 rfl) rfl rfl ?_
        refine kx_icmp_gt (pc := 38) (tgt := 71) (kx_dd d_Pe_nationFor 22 rfl) rfl (fun c38 => ?_) (fun c38 => ?_)
        · refine kx_iinc_e (pc := 71) (v := nI (k + 1)) (lv' := [_, _, _, _, _, _, _]) (kx_dd d_Pe_nationFor 39 rfl) rfl (Nat.le_of_ble_eq_true rfl) (nI_1 k) rfl ?_
          refine kx_goto (pc := 74) (tgt := 9) (kx_dd d_Pe_nationFor 40 rfl) rfl ?_
          simp (disch := omega) only [q4, bP_0, bP_1, nI_eq, nI_ltI, nI_leI, nI_lt_p] at c27 c38
          have e1 : natK s p day kn (k + 1) = natK s p day kn k := if_neg (fun z => by have := z.2; omega)
          have ih1 := ih (k + 1) (by omega)
          rw [e1] at ih1
          exact ih1
        · refine kx_aload_n (pc := 41) (kx_dd d_Pe_nationFor 23 rfl) rfl rfl ?_
          refine kx_getR (pc := 42) (b := 20) fl_Pe_28 (hs.k 14 rfl) rfl (hs.r 24 rfl) (kx_dd d_Pe_nationFor 24 rfl) ?_
          refine kx_iload (pc := 45) (kx_dd d_Pe_nationFor 25 rfl) rfl ?_
          refine kx_ialdn (pc := 47) k (hs.t 20 rfl) rfl (by omega) (by decide) (kx_dd d_Pe_nationFor 26 rfl) ?_
          refine kx_iload (pc := 48) (kx_dd d_Pe_nationFor 27 rfl) rfl ?_
          refine kx_icmp_lt (pc := 50) (tgt := 71) (kx_dd d_Pe_nationFor 28 rfl) rfl (fun c50 => ?_) (fun c50 => ?_)
          · refine kx_iinc_e (pc := 71) (v := nI (k + 1)) (lv' := [_, _, _, _, _, _, _]) (kx_dd d_Pe_nationFor 39 rfl) rfl (Nat.le_of_ble_eq_true rfl) (nI_1 k) rfl ?_
            refine kx_goto (pc := 74) (tgt := 9) (kx_dd d_Pe_nationFor 40 rfl) rfl ?_
            simp (disch := omega) only [q4, bP_0, bP_1, nI_eq, nI_ltI, nI_leI, nI_lt_p] at c27 c38 c50
            have e1 : natK s p day kn (k + 1) = natK s p day kn k := if_neg (fun z => by have := z.2; omega)
            have ih1 := ih (k + 1) (by omega)
            rw [e1] at ih1
            exact ih1
          · refine kx_aload_n (pc := 53) (kx_dd d_Pe_nationFor 29 rfl) rfl rfl ?_
            refine kx_getR (pc := 54) (b := 20) fl_Pe_28 (hs.k 14 rfl) rfl (hs.r 24 rfl) (kx_dd d_Pe_nationFor 30 rfl) ?_
            refine kx_iload (pc := 57) (kx_dd d_Pe_nationFor 31 rfl) rfl ?_
            refine kx_ialdn (pc := 59) k (hs.t 20 rfl) rfl (by omega) (by decide) (kx_dd d_Pe_nationFor 32 rfl) ?_
            refine kx_istore_e (pc := 60) (lv' := [_, _, _, _, _, _, _]) (kx_dd d_Pe_nationFor 33 rfl) (Nat.le_of_ble_eq_true rfl) rfl ?_
            refine kx_aload_n (pc := 62) (kx_dd d_Pe_nationFor 34 rfl) rfl rfl ?_
            refine kx_getR (pc := 63) (b := 21) fl_Pe_31 (hs.k 14 rfl) rfl (hs.r 25 rfl) (kx_dd d_Pe_nationFor 35 rfl) ?_
            refine kx_iload (pc := 66) (kx_dd d_Pe_nationFor 36 rfl) rfl ?_
            refine kx_ialdn (pc := 68) k (hs.t 21 rfl) rfl (by omega) (by decide) (kx_dd d_Pe_nationFor 37 rfl) ?_
            refine kx_istore_e (pc := 69) (lv' := [_, _, _, _, _, _, _]) (kx_dd d_Pe_nationFor 38 rfl) (Nat.le_of_ble_eq_true rfl) rfl ?_
            refine kx_iinc_e (pc := 71) (v := nI (k + 1)) (lv' := [_, _, _, _, _, _, _]) (kx_dd d_Pe_nationFor 39 rfl) rfl (Nat.le_of_ble_eq_true rfl) (nI_1 k) rfl ?_
            refine kx_goto (pc := 74) (tgt := 9) (kx_dd d_Pe_nationFor 40 rfl) rfl ?_
            simp (disch := omega) only [q4, bP_0, bP_1, nI_eq, nI_ltI, nI_leI, nI_lt_p] at c27 c38 c50
            have e1 : natK s p day kn (k + 1) = (s.2.2.2.2.2.2 k, s.2.2.2.2.2.1 k + 1) := if_pos ⟨Classical.not_not.mp c27, by omega, by omega⟩
            have ih1 := ih (k + 1) (by omega)
            rw [e1] at ih1
            rw [q4, q5]
            simp only [nI_pred] at ih1
            exact ih1
theorem x_Pe_nationFor {l : Launch} {g : kx_G} {d : Nat} {h : kx_Mem} (hs : SC h) (s : PS) (ho : PSok s) (hp : PSc s h) (p day kn : Nat) (hpp : p < 2 ^ 31) (hday : day < 2 ^ 31) (hkn : kn < 2 ^ 31) : kx_Sp l g m_Pe_nationFor [.ref 14, .int (nI p), .int (nI day), .int (nI kn)] h (d + 1) 0 0 (fun v h' => v = some (.int (nI (natF s p day kn))) ∧ h' = h) := by
  refine kx_enter_e (lv := [_, _, _, _, _, _, _]) (by decide +kernel) (Nat.le_of_ble_eq_true rfl) rfl ?_
  refine kx_iconst (pc := 0) (v := 0) (kx_dd d_Pe_nationFor 0 rfl) rfl ?_
  refine kx_istore_e (pc := 1) (lv' := [_, _, _, _, _, _, _]) (kx_dd d_Pe_nationFor 1 rfl) (Nat.le_of_ble_eq_true rfl) rfl ?_
  refine kx_iconst (pc := 3) (v := -1) (kx_dd d_Pe_nationFor 2 rfl) rfl ?_
  refine kx_istore_e (pc := 4) (lv' := [_, _, _, _, _, _, _]) (kx_dd d_Pe_nationFor 3 rfl) (Nat.le_of_ble_eq_true rfl) rfl ?_
  refine kx_iconst (pc := 6) (v := 0) (kx_dd d_Pe_nationFor 4 rfl) rfl ?_
  refine kx_istore_e (pc := 7) (lv' := [_, _, _, _, _, _, _]) (kx_dd d_Pe_nationFor 5 rfl) (Nat.le_of_ble_eq_true rfl) rfl ?_
  exact x_Pe_nationFor_loop hs s ho hp p day kn hpp hday hkn s.2.1 0 (by omega)
def deadP (s : PS) (p day kn : Nat) : Prop := ∃ k, k < s.2.1 ∧ toldP s k 1 p kn ∧ s.2.2.2.2.2.1 k ≤ day
theorem x_Pe_isDead_loop {l : Launch} {g : kx_G} {d : Nat} {h : kx_Mem} (hs : SC h) (s : PS) (ho : PSok s) (hp : PSc s h) (p day kn : Nat) (hpp : p < 2 ^ 31) (hday : day < 2 ^ 31) (hkn : kn < 2 ^ 31) : ∀ n k, k + n = s.2.1 → (∀ j, j < k → ¬ (toldP s j 1 p kn ∧ s.2.2.2.2.2.1 j ≤ day)) → kx_X (l, g, m_Pe_isDead, d + 1, 0, 0, (fun v h' => v = some (.int (bP (deadP s p day kn))) ∧ h' = h)) 0 0 3 [some (.ref 14), some (.int (nI p)), some (.int (nI day)), some (.int (nI kn)), some (.int (nI k))] [] (h) := by
  intro n
  induction n with
  | zero =>
    intro k hk hj0
    have hk0 : k = s.2.1 := by omega
    subst hk0
    refine kx_iload (pc := 3) (kx_dd d_Pe_isDead 2 rfl) rfl ?_
    refine kx_aload_n (pc := 5) (kx_dd d_Pe_isDead 3 rfl) rfl rfl ?_
    refine kx_getI (pc := 6) fl_Pe_46 (hs.k 14 rfl) rfl (kx_dd d_Pe_isDead 4 rfl) ?_
    refine kx_icmp_ge (pc := 9) (tgt := 43) (kx_dd d_Pe_isDead 5 rfl) rfl (fun c9 => ?_) (fun c9 => ?_)
    · refine kx_iconst (pc := 43) (v := 0) (kx_dd d_Pe_isDead 23 rfl) rfl ?_
      refine kx_zret (pc := 44) rfl rfl (kx_dd d_Pe_isDead 24 rfl) (Nat.le_refl _) (Nat.le_refl _) ?_
      exact ⟨by rw [bP_f (fun ⟨j, z1, z2⟩ => hj0 j z1 z2)], rfl⟩
    · exact absurd (by rw [hp.2.1]; exact Int32.le_refl _) c9
  | succ n ih =>
    intro k hk hj0
    obtain ⟨q1, q2, q3, q4, q5⟩ := hp.2.2 k (by omega)
    have o1 := ho.2.2 k (by omega)
    have o2 := ho.1
    have o3 := ho.2.1
    refine kx_iload (pc := 3) (kx_dd d_Pe_isDead 2 rfl) rfl ?_
    refine kx_aload_n (pc := 5) (kx_dd d_Pe_isDead 3 rfl) rfl rfl ?_
    refine kx_getI (pc := 6) fl_Pe_46 (hs.k 14 rfl) rfl (kx_dd d_Pe_isDead 4 rfl) ?_
    refine kx_icmp_ge (pc := 9) (tgt := 43) (kx_dd d_Pe_isDead 5 rfl) rfl (fun c9 => ?_) (fun c9 => ?_)
    · exact absurd c9 (by rw [hp.2.1]; exact nI_ge (by omega) (by omega))
    · refine kx_aload_n (pc := 12) (kx_dd d_Pe_isDead 6 rfl) rfl rfl ?_
      refine kx_iload (pc := 13) (kx_dd d_Pe_isDead 7 rfl) rfl ?_
      refine kx_iconst (pc := 15) (v := 1) (kx_dd d_Pe_isDead 8 rfl) rfl ?_
      refine kx_iload_n (pc := 16) (kx_dd d_Pe_isDead 9 rfl) rfl rfl ?_
      refine kx_iload_n (pc := 17) (kx_dd d_Pe_isDead 10 rfl) rfl rfl ?_
      refine kx_invV (pc := 18) (a := 14) (as := [_, _, _, _]) (kx_dd d_Pe_isDead 11 rfl) ⟨lk_Pe_49, wi_Pe_isTold, we_Pe_isTold⟩ w_Pe_isTold (hs.k 14 rfl) rfl rfl rfl rfl (by decide) (x_Pe_isTold (d := d) hs s ho hp k 1 p kn (by omega) (by decide) hpp hkn) (Nat.le_refl _) ⟨Nat.le_refl _, Nat.le_refl _⟩ (fun v h' hq => ?_)
      obtain ⟨rfl, he⟩ := hq
      rw [he]
      clear he
      refine kx_if_eq (pc := 21) (tgt := 37) (kx_dd d_Pe_isDead 12 rfl) rfl (fun c21 => ?_) (fun c21 => ?_)
      · refine kx_iinc_e (pc := 37) (v := nI (k + 1)) (lv' := [_, _, _, _, _]) (kx_dd d_Pe_isDead 21 rfl) rfl (Nat.le_of_ble_eq_true rfl) (nI_1 k) rfl ?_
        refine kx_goto (pc := 40) (tgt := 3) (kx_dd d_Pe_isDead 22 rfl) rfl ?_
        simp (disch := omega) only [q4, bP_0, bP_1, nI_eq, nI_ltI, nI_leI, nI_lt_p] at c21
        exact ih (k + 1) (by omega) (fun j hj z => by
          rcases Nat.lt_succ_iff_lt_or_eq.mp hj with h1 | rfl
          · exact hj0 j h1 z
          · exact c21 z.1)
      · refine kx_aload_n (pc := 24) (kx_dd d_Pe_isDead 13 rfl) rfl rfl ?_
        refine kx_getR (pc := 25) (b := 20) fl_Pe_28 (hs.k 14 rfl) rfl (hs.r 24 rfl) (kx_dd d_Pe_isDead 14 rfl) ?_
        refine kx_iload (pc := 28) (kx_dd d_Pe_isDead 15 rfl) rfl ?_
        refine kx_ialdn (pc := 30) k (hs.t 20 rfl) rfl (by omega) (by decide) (kx_dd d_Pe_isDead 16 rfl) ?_
        refine kx_iload_n (pc := 31) (kx_dd d_Pe_isDead 17 rfl) rfl rfl ?_
        refine kx_icmp_gt (pc := 32) (tgt := 37) (kx_dd d_Pe_isDead 18 rfl) rfl (fun c32 => ?_) (fun c32 => ?_)
        · refine kx_iinc_e (pc := 37) (v := nI (k + 1)) (lv' := [_, _, _, _, _]) (kx_dd d_Pe_isDead 21 rfl) rfl (Nat.le_of_ble_eq_true rfl) (nI_1 k) rfl ?_
          refine kx_goto (pc := 40) (tgt := 3) (kx_dd d_Pe_isDead 22 rfl) rfl ?_
          simp (disch := omega) only [q4, bP_0, bP_1, nI_eq, nI_ltI, nI_leI, nI_lt_p] at c21 c32
          exact ih (k + 1) (by omega) (fun j hj z => by
            rcases Nat.lt_succ_iff_lt_or_eq.mp hj with h1 | rfl
            · exact hj0 j h1 z
            · have := z.2; omega)
        · refine kx_iconst (pc := 35) (v := 1) (kx_dd d_Pe_isDead 19 rfl) rfl ?_
          refine kx_zret (pc := 36) rfl rfl (kx_dd d_Pe_isDead 20 rfl) (Nat.le_refl _) (Nat.le_refl _) ?_
          simp (disch := omega) only [q4, bP_0, bP_1, nI_eq, nI_ltI, nI_leI, nI_lt_p] at c21 c32
          exact ⟨by rw [bP_t ⟨k, by omega, Classical.not_not.mp c21, by omega⟩], rfl⟩
theorem x_Pe_isDead {l : Launch} {g : kx_G} {d : Nat} {h : kx_Mem} (hs : SC h) (s : PS) (ho : PSok s) (hp : PSc s h) (p day kn : Nat) (hpp : p < 2 ^ 31) (hday : day < 2 ^ 31) (hkn : kn < 2 ^ 31) : kx_Sp l g m_Pe_isDead [.ref 14, .int (nI p), .int (nI day), .int (nI kn)] h (d + 1) 0 0 (fun v h' => v = some (.int (bP (deadP s p day kn))) ∧ h' = h) := by
  refine kx_enter_e (lv := [_, _, _, _, _]) (by decide +kernel) (Nat.le_of_ble_eq_true rfl) rfl ?_
  refine kx_iconst (pc := 0) (v := 0) (kx_dd d_Pe_isDead 0 rfl) rfl ?_
  refine kx_istore_e (pc := 1) (lv' := [_, _, _, _, _]) (kx_dd d_Pe_isDead 1 rfl) (Nat.le_of_ble_eq_true rfl) rfl ?_
  exact x_Pe_isDead_loop hs s ho hp p day kn hpp hday hkn s.2.1 0 (by omega) (fun j hj => absurd hj (Nat.not_lt_zero j))
theorem x_Pe_tell {l : Launch} {g : kx_G} {d : Nat} {h : kx_Mem} (hs : SC h) (n : Nat) (hn : h.1 14 3 = nI n) (hn2 : n ≤ 200) (c p fr sa td : Int32) : kx_Sp l g m_Pe_tell [.ref 14, .int c, .int p, .int fr, .int sa, .int td] h (d) 0 0 (fun v h' => v = some (.int (if n = 200 then -3 else nI (n + 1))) ∧ h' = (if n = 200 then h else kx_setI (kx_setI (kx_setI (kx_setI (kx_setI (kx_setI h 17 n c) 18 n p) 19 n td) 20 n fr) 21 n sa) 14 3 (nI (n + 1)))) := by
  refine kx_enter_e (lv := [_, _, _, _, _, _]) (by decide +kernel) (Nat.le_of_ble_eq_true rfl) rfl ?_
  refine kx_aload_n (pc := 0) (kx_dd d_Pe_tell 0 rfl) rfl rfl ?_
  refine kx_getI (pc := 1) fl_Pe_46 (hs.k 14 rfl) rfl (kx_dd d_Pe_tell 1 rfl) ?_
  refine kx_sipush (pc := 4) (v := 200) (kx_dd d_Pe_tell 2 rfl) rfl ?_
  refine kx_icmp_lt (pc := 7) (tgt := 13) (kx_dd d_Pe_tell 3 rfl) rfl (fun c7 => ?_) (fun c7 => ?_)
  · have hnn : n < 200 := by
      rw [hn] at c7
      exact (nI_ltI (b := 200) (by omega) (by decide)).mp c7
    refine kx_aload_n (pc := 13) (kx_dd d_Pe_tell 6 rfl) rfl rfl ?_
    refine kx_getR (pc := 14) (b := 17) fl_Pe_19 (hs.k 14 rfl) rfl (hs.r 21 rfl) (kx_dd d_Pe_tell 7 rfl) ?_
    refine kx_aload_n (pc := 17) (kx_dd d_Pe_tell 8 rfl) rfl rfl ?_
    refine kx_getI (pc := 18) fl_Pe_46 (hs.k 14 rfl) rfl (kx_dd d_Pe_tell 9 rfl) ?_
    refine kx_iload_n (pc := 21) (kx_dd d_Pe_tell 10 rfl) rfl rfl ?_
    refine kx_iastn (pc := 22) n (hs.t 17 rfl) (by decide) hn (by omega) (by decide) (kx_dd d_Pe_tell 11 rfl) ?_
    refine kx_aload_n (pc := 23) (kx_dd d_Pe_tell 12 rfl) rfl rfl ?_
    refine kx_getR (pc := 24) (b := 18) fl_Pe_22 (hs.k 14 rfl) rfl (hs.r 22 rfl) (kx_dd d_Pe_tell 13 rfl) ?_
    refine kx_aload_n (pc := 27) (kx_dd d_Pe_tell 14 rfl) rfl rfl ?_
    refine kx_getI (pc := 28) fl_Pe_46 (hs.k 14 rfl) rfl (kx_dd d_Pe_tell 15 rfl) ?_
    refine kx_iload_n (pc := 31) (kx_dd d_Pe_tell 16 rfl) rfl rfl ?_
    refine kx_iastn (pc := 32) n (hs.t 18 rfl) (by decide) hn (by omega) (by decide) (kx_dd d_Pe_tell 17 rfl) ?_
    refine kx_aload_n (pc := 33) (kx_dd d_Pe_tell 18 rfl) rfl rfl ?_
    refine kx_getR (pc := 34) (b := 19) fl_Pe_25 (hs.k 14 rfl) rfl (hs.r 23 rfl) (kx_dd d_Pe_tell 19 rfl) ?_
    refine kx_aload_n (pc := 37) (kx_dd d_Pe_tell 20 rfl) rfl rfl ?_
    refine kx_getI (pc := 38) fl_Pe_46 (hs.k 14 rfl) rfl (kx_dd d_Pe_tell 21 rfl) ?_
    refine kx_iload (pc := 41) (kx_dd d_Pe_tell 22 rfl) rfl ?_
    refine kx_iastn (pc := 43) n (hs.t 19 rfl) (by decide) hn (by omega) (by decide) (kx_dd d_Pe_tell 23 rfl) ?_
    refine kx_aload_n (pc := 44) (kx_dd d_Pe_tell 24 rfl) rfl rfl ?_
    refine kx_getR (pc := 45) (b := 20) fl_Pe_28 (hs.k 14 rfl) rfl (hs.r 24 rfl) (kx_dd d_Pe_tell 25 rfl) ?_
    refine kx_aload_n (pc := 48) (kx_dd d_Pe_tell 26 rfl) rfl rfl ?_
    refine kx_getI (pc := 49) fl_Pe_46 (hs.k 14 rfl) rfl (kx_dd d_Pe_tell 27 rfl) ?_
    refine kx_iload_n (pc := 52) (kx_dd d_Pe_tell 28 rfl) rfl rfl ?_
    refine kx_iastn (pc := 53) n (hs.t 20 rfl) (by decide) hn (by omega) (by decide) (kx_dd d_Pe_tell 29 rfl) ?_
    refine kx_aload_n (pc := 54) (kx_dd d_Pe_tell 30 rfl) rfl rfl ?_
    refine kx_getR (pc := 55) (b := 21) fl_Pe_31 (hs.k 14 rfl) rfl (hs.r 25 rfl) (kx_dd d_Pe_tell 31 rfl) ?_
    refine kx_aload_n (pc := 58) (kx_dd d_Pe_tell 32 rfl) rfl rfl ?_
    refine kx_getI (pc := 59) fl_Pe_46 (hs.k 14 rfl) rfl (kx_dd d_Pe_tell 33 rfl) ?_
    refine kx_iload (pc := 62) (kx_dd d_Pe_tell 34 rfl) rfl ?_
    refine kx_iastn (pc := 64) n (hs.t 21 rfl) (by decide) hn (by omega) (by decide) (kx_dd d_Pe_tell 35 rfl) ?_
    refine kx_aload_n (pc := 65) (kx_dd d_Pe_tell 36 rfl) rfl rfl ?_
    refine kx_dup (pc := 66) (kx_dd d_Pe_tell 37 rfl) rfl ?_
    refine kx_getI (pc := 67) fl_Pe_46 (hs.k 14 rfl) rfl (kx_dd d_Pe_tell 38 rfl) ?_
    refine kx_iconst (pc := 70) (v := 1) (kx_dd d_Pe_tell 39 rfl) rfl ?_
    refine kx_iadd (pc := 71) (kx_dd d_Pe_tell 40 rfl) ?_
    refine kx_putI (pc := 72) fl_Pe_46 (hs.k 14 rfl) (by decide) rfl rfl (kx_dd d_Pe_tell 41 rfl) ?_
    refine kx_aload_n (pc := 75) (kx_dd d_Pe_tell 42 rfl) rfl rfl ?_
    refine kx_getI (pc := 76) fl_Pe_46 (hs.k 14 rfl) rfl (kx_dd d_Pe_tell 43 rfl) ?_
    refine kx_iret (pc := 79) rfl (kx_dd d_Pe_tell 44 rfl) (Nat.le_refl _) (Nat.le_refl _) ?_
    have e : ¬ n = 200 := fun e => by
      rw [hn, e] at c7
      exact absurd c7 (by decide)
    rw [if_neg e, if_neg e]
    refine ⟨?_, ?_⟩
    · simp [kx_setI, kx_up, hn, nI_1]
    · simp only [show (kx_setI (kx_setI (kx_setI (kx_setI (kx_setI h 17 n c) 18 n p) 19 n td) 20 n fr) 21 n sa).1 14 3 = nI n from hn, nI_1]
  · refine kx_bipush (pc := 10) (v := -3) (kx_dd d_Pe_tell 4 rfl) rfl ?_
    refine kx_iret (pc := 12) rfl (kx_dd d_Pe_tell 5 rfl) (Nat.le_refl _) (Nat.le_refl _) ?_
    have e : n = 200 := by
      rcases Nat.lt_or_ge n 200 with q | q
      · exact absurd (show h.1 14 3 < 200 by rw [hn]; exact nI_lt (b := 200) q (by decide)) c7
      · omega
    rw [if_pos e, if_pos e]
    exact ⟨rfl, rfl⟩
