/-! test cases: what is chosen; the class -/
/-- the best so far: how many like cases, how many test cases, which -/
abbrev TB : Type := Nat × Nat × (Nat → Int32)
def offF (B : TB) (cv m : Nat) (tr : Nat → Int32) : TB := if B.1 < bc cv then (bc cv, m, tr) else B
def chL (s : Nat → TB → TB) (fr : Nat) : Nat → TB → TB
  | 0, B => B
  | m + 1, B => s (fr + m) (chL s fr m B)
noncomputable def chF (O : Nat → Prop) (lk : Nat → Nat) (n N : Nat) : Nat → Nat → Nat → Nat → (Nat → Int32) → TB → TB
  | 0, _, _, st, tr, B => offF B st N tr
  | f + 1, k, fr, st, tr, B => chL (fun c B => @ite TB (O c) (Classical.propDecidable _) (chF O lk n N f (k + 1) (c + 1) (st ||| lk c) (upF tr k (nI c)) B) B) fr (n - fr) B
def tr0 : Nat → Int32 := fun _ => -1
def opD (D : DK) (c : Nat) : Prop := cN D.2.2.1 c 8 = 0
noncomputable def likB (D : DK) (q c e : Nat) : Bool := @decide (opD D e ∧ likP D q c e) (Classical.propDecidable _)
noncomputable def lkN (D : DK) (q c : Nat) : Nat := pvK (likB D q c) D.2.2.1.1
noncomputable def tstF (D : DK) (q : Nat) : Nat → TB
  | 0 => (0, 0, tr0)
  | N + 1 => chF (opD D) (lkN D q) D.2.2.1.1 (N + 1) (N + 1) 0 0 0 tr0 (tstF D q N)
theorem likP_self {D : DK} {q c : Nat} : likP D q c c := ⟨rfl, by rw [Nat.xor_self]; exact Nat.zero_le _⟩
theorem pvK_c {I J : Nat → Bool} : ∀ n, (∀ b, b < n → I b = J b) → pvK I n = pvK J n
  | 0, _ => rfl
  | n + 1, h => by
    unfold pvK
    rw [pvK_c n (fun b hb => h b (by omega)), h n (by omega)]
theorem pvK_or {I J : Nat → Bool} {n j : Nat} (hj : j < n) (h : ∀ b, b < n → (J b = true ↔ I b = true ∨ b = j)) : pvK J n = pvK I n ||| 2 ^ j := by
  apply Nat.eq_of_testBit_eq
  intro i
  rw [pvK_t, Nat.testBit_or, pvK_t, Nat.testBit_two_pow]
  by_cases hi : i < n
  · have := h i hi
    by_cases e : i = j
    · subst e
      have : J i = true := this.mpr (Or.inr rfl)
      simp [hi, this]
    · have e2 : ¬ j = i := fun z => e z.symm
      have e3 : J i = I i := by
        cases hJ : J i with
        | true => rcases this.mp hJ with z | z
                  · rw [z]
                  · exact absurd z e
        | false => cases hI : I i with
          | true => rw [this.mpr (Or.inl hI)] at hJ; cases hJ
          | false => rfl
      simp [hi, e2, e3]
  · have e2 : ¬ j = i := by omega
    simp [hi, e2]
theorem lkN_lt {D : DK} (ho : DKok D) {q c : Nat} : lkN D q c < 2 ^ 60 := Nat.lt_of_lt_of_le (pvK_lt _) (Nat.pow_le_pow_right (by decide) ho.2.2.1.1)
theorem lkN_pos {D : DK} {q c : Nat} (hc : c < D.2.2.1.1) (h : opD D c) : lkN D q c ≠ 0 := by
  intro e
  have := pvK_t (I := likB D q c) D.2.2.1.1 c
  rw [show pvK (likB D q c) D.2.2.1.1 = 0 from e] at this
  simp [hc, likB, h, likP_self] at this
noncomputable def lkC (D : DK) (q c : Nat) : Nat := @ite Nat (opD D c) (Classical.propDecidable _) (lkN D q c) 0
theorem lkC_t {D : DK} {q c : Nat} (h : opD D c) : lkC D q c = lkN D q c := if_pos h
theorem lkC_f {D : DK} {q c : Nat} (h : ¬ opD D c) : lkC D q c = 0 := if_neg h
theorem lkC_lt {D : DK} (ho : DKok D) {q c : Nat} : lkC D q c < 2 ^ 60 := by
  by_cases h : opD D c
  · rw [lkC_t h]; exact lkN_lt ho
  · rw [lkC_f h]; decide
theorem lkC_z {D : DK} (ho : DKok D) {q c : Nat} (hc : c < D.2.2.1.1) : lg_cmp (lN (lkC D q c)) 0 = 0 ↔ ¬ opD D c := by
  have := lkC_lt ho (q := q) (c := c)
  rw [lN_z (by omega)]
  by_cases h : opD D c
  · rw [lkC_t h]
    exact ⟨fun e => absurd e (lkN_pos hc h), fun e => absurd h e⟩
  · rw [lkC_f h]
    exact ⟨fun _ => h, fun _ => rfl⟩
theorem or60 {a b : Nat} (ha : a < 2 ^ 60) (hb : b < 2 ^ 60) : a ||| b < 2 ^ 60 := Nat.or_lt_two_pow ha hb
def TBc (B : TB) (h : kx_Mem) : Prop := (B.1 ≤ 64 ∧ B.2.1 ≤ 3) ∧ h.1 42 3 = nI B.1 ∧ h.1 42 2 = nI B.2.1 ∧ ∀ p, p < B.2.1 → h.1 44 p = B.2.2 p
def FtP (a j : Nat) : Prop := (a = 42 ∧ 2 ≤ j ∧ j ≤ 5) ∨ a = 44
def FoP (a j : Nat) : Prop := (a = 42 ∧ 2 ≤ j ∧ j ≤ 3) ∨ a = 44
def FtL2 (a _j : Nat) : Prop := a = 43
theorem offF_le {B : TB} {cv m : Nat} {tr : Nat → Int32} : B.1 ≤ (offF B cv m tr).1 ∧ bc cv ≤ (offF B cv m tr).1 := by
  unfold offF
  split
  · exact ⟨by show B.1 ≤ bc cv; omega, Nat.le_refl _⟩
  · exact ⟨Nat.le_refl _, by omega⟩
theorem offF_n {B : TB} {cv m : Nat} {tr : Nat → Int32} (h : bc cv ≤ B.1) : offF B cv m tr = B := if_neg (by omega)
theorem DKc.fgx {D : DK} {A : DA} {P L : Nat → Nat → Prop} {h h' : kx_Mem} (hp : DKc D A h) (hf : kx_Fg P L h h') (hP : ∀ a j, (a = 14 ∨ (17 ≤ a ∧ a ≤ 21) ∨ (34 ≤ a ∧ a ≤ 37) ∨ a = 40 ∨ a = 41 ∨ 154 ≤ a) → ¬ P a j ∧ ¬ L a j) : DKc D A h' := by
  have e : ∀ a j, (a = 14 ∨ (17 ≤ a ∧ a ≤ 21) ∨ (34 ≤ a ∧ a ≤ 37) ∨ a = 40 ∨ a = 41 ∨ 154 ≤ a) → h'.1 a j = h.1 a j := fun a j q => hf.1 a j (hP a j q).1
  have el : ∀ a j, 154 ≤ a → h'.2.1 a j = h.2.1 a j := fun a j q => hf.2.1 a j (hP a j (by omega)).2
  have er := hf.2.2
  obtain ⟨⟨p1, p2, p3⟩, ⟨t1, t2⟩, ⟨c1, c2, c3, c4, c5, c6⟩, ⟨f1, f2, f3, f4, f5, f6⟩, ⟨s1, s2⟩, g1⟩ := hp
  refine ⟨⟨by rw [e 14 0 (by omega)]; exact p1, by rw [e 14 3 (by omega)]; exact p2, fun k hk => ?_⟩, ⟨by rw [e 34 0 (by omega)]; exact t1, fun k hk => ?_⟩, ⟨by rw [e 40 2 (by omega)]; exact c1, by rw [er]; exact c2, by rw [er]; exact c3, c4, c5, by rw [er]; exact c6⟩, ⟨by rw [e 41 2 (by omega)]; exact f1, by rw [er]; exact f2, by rw [er]; exact f3, f4, f5, by rw [er]; exact f6⟩, ⟨s1, fun c hc => ?_⟩, fun k hk => ?_⟩
  · rw [e 17 k (by omega), e 18 k (by omega), e 19 k (by omega), e 20 k (by omega), e 21 k (by omega)]
    exact p3 k hk
  · rw [e 35 k (by omega), e 36 k (by omega), e 37 k (by omega)]
    exact t2 k hk
  · obtain ⟨x1, x2, x3, x4, x5⟩ := s2 c hc
    exact ⟨x1, x2, by rw [er]; exact x3, fun j q1 q2 => by rw [e _ j (by omega)]; exact x4 j q1 q2, by rw [el _ _ x1]; exact x5⟩
  · obtain ⟨x1, x2, x3, x4, x5, x6, x7, x8⟩ := g1 k hk
    exact ⟨x1, x2, by rw [er]; exact x3, by rw [er]; exact x4, by rw [el _ _ x1]; exact x5, by rw [e _ _ (by omega)]; exact x6, by rw [e _ _ (by omega)]; exact x7, by rw [e _ _ (by omega)]; exact x8⟩
theorem x_Te_offer {l : Launch} {g : kx_G} {d : Nat} {h : kx_Mem} (hs : SC h) (B : TB) (hB : TBc B h) (cv m : Nat) (hcv : cv < 2 ^ 60) (hm : m ≤ 3) (tr : Nat → Int32) (i j k : Int32) (h0 : 0 < m → tr 0 = i) (h1 : 1 < m → tr 1 = j) (h2 : 2 < m → tr 2 = k) : kx_Sp l g m_Te_offer [.ref 42, .long (lN cv), .int (nI m), .int i, .int j, .int k] h (d + 1) 0 0 (fun v h' => v = none ∧ TBc (offF B cv m tr) h' ∧ kx_Fc FoP h h') := by
  have bl := bc_le cv
  have b1 := hB.1.1
  refine kx_enter_e (lv := [_, _, _, _, _, _, _, _]) (by decide +kernel) (Nat.le_of_ble_eq_true rfl) rfl ?_
  refine kx_lload_n (pc := 0) (kx_dd d_Te_offer 0 rfl) rfl rfl ?_
  refine kx_invS (pc := 1) (as := [_]) (kx_dd d_Te_offer 1 rfl) ⟨lk_Te_85, wt_Lo_bitCount⟩ w_Lo_bitCount rfl rfl (Nat.le_of_ble_eq_true rfl) (x_Lo_bitCount (d := d) cv (by omega)) (Nat.le_refl _) ⟨Nat.le_refl _, Nat.le_refl _⟩ (fun v h' hq => ?_)
  obtain ⟨rfl, he⟩ := hq
  rw [he]
  clear he
  refine kx_istore_e (pc := 4) (lv' := [_, _, _, _, _, _, _, _]) (kx_dd d_Te_offer 2 rfl) (Nat.le_of_ble_eq_true rfl) rfl ?_
  refine kx_iload (pc := 6) (kx_dd d_Te_offer 3 rfl) rfl ?_
  refine kx_aload_n (pc := 8) (kx_dd d_Te_offer 4 rfl) rfl rfl ?_
  refine kx_getI (pc := 9) fl_Te_29 (hs.k 42 rfl) rfl (kx_dd d_Te_offer 5 rfl) ?_
  refine kx_icmp_le (pc := 12) (tgt := 50) (kx_dd d_Te_offer 6 rfl) rfl (fun c12 => ?_) (fun c12 => ?_)
  · refine kx_vret (pc := 50) rfl (kx_dd d_Te_offer 28 rfl) (Nat.le_refl _) (Nat.le_refl _) ?_
    rw [hB.2.1, nI_leI (by omega) (by omega)] at c12
    exact ⟨rfl, by rw [offF_n c12]; exact hB, kx_Fc.rf⟩
  · refine kx_aload_n (pc := 15) (kx_dd d_Te_offer 7 rfl) rfl rfl ?_
    refine kx_iload (pc := 16) (kx_dd d_Te_offer 8 rfl) rfl ?_
    refine kx_putI (pc := 18) fl_Te_29 (hs.k 42 rfl) (by decide) rfl rfl (kx_dd d_Te_offer 9 rfl) ?_
    refine kx_aload_n (pc := 21) (kx_dd d_Te_offer 10 rfl) rfl rfl ?_
    refine kx_iload_n (pc := 22) (kx_dd d_Te_offer 11 rfl) rfl rfl ?_
    refine kx_putI (pc := 23) fl_Te_21 (hs.k 42 rfl) (by decide) rfl rfl (kx_dd d_Te_offer 12 rfl) ?_
    refine kx_aload_n (pc := 26) (kx_dd d_Te_offer 13 rfl) rfl rfl ?_
    refine kx_getR (pc := 27) (b := 44) fl_Te_17 (hs.k 42 rfl) rfl (hs.r 46 rfl) (kx_dd d_Te_offer 14 rfl) ?_
    refine kx_iconst (pc := 30) (v := 0) (kx_dd d_Te_offer 15 rfl) rfl ?_
    refine kx_iload (pc := 31) (kx_dd d_Te_offer 16 rfl) rfl ?_
    refine kx_iastn (pc := 33) 0 (hs.t 44 rfl) (by decide) rfl (by decide) (by decide) (kx_dd d_Te_offer 17 rfl) ?_
    refine kx_aload_n (pc := 34) (kx_dd d_Te_offer 18 rfl) rfl rfl ?_
    refine kx_getR (pc := 35) (b := 44) fl_Te_17 (hs.k 42 rfl) rfl (hs.r 46 rfl) (kx_dd d_Te_offer 19 rfl) ?_
    refine kx_iconst (pc := 38) (v := 1) (kx_dd d_Te_offer 20 rfl) rfl ?_
    refine kx_iload (pc := 39) (kx_dd d_Te_offer 21 rfl) rfl ?_
    refine kx_iastn (pc := 41) 1 (hs.t 44 rfl) (by decide) rfl (by decide) (by decide) (kx_dd d_Te_offer 22 rfl) ?_
    refine kx_aload_n (pc := 42) (kx_dd d_Te_offer 23 rfl) rfl rfl ?_
    refine kx_getR (pc := 43) (b := 44) fl_Te_17 (hs.k 42 rfl) rfl (hs.r 46 rfl) (kx_dd d_Te_offer 24 rfl) ?_
    refine kx_iconst (pc := 46) (v := 2) (kx_dd d_Te_offer 25 rfl) rfl ?_
    refine kx_iload (pc := 47) (kx_dd d_Te_offer 26 rfl) rfl ?_
    refine kx_iastn (pc := 49) 2 (hs.t 44 rfl) (by decide) rfl (by decide) (by decide) (kx_dd d_Te_offer 27 rfl) ?_
    refine kx_vret (pc := 50) rfl (kx_dd d_Te_offer 28 rfl) (Nat.le_refl _) (Nat.le_refl _) ?_
    rw [hB.2.1, nI_leI (by omega) (by omega)] at c12
    have e : offF B cv m tr = (bc cv, m, tr) := if_pos (by omega)
    rw [e]
    refine ⟨rfl, ⟨⟨bl, hm⟩, ?_, ?_, fun q hq => ?_⟩, ((((kx_Fc.set (by unfold FoP; omega)).tr (kx_Fc.set (by unfold FoP; omega))).tr (kx_Fc.set (by unfold FoP; omega))).tr (kx_Fc.set (by unfold FoP; omega))).tr (kx_Fc.set (by unfold FoP; omega))⟩
    · rw [setI_ne (Or.inl (by decide)), setI_ne (Or.inl (by decide)), setI_ne (Or.inl (by decide)), setI_ne (Or.inr (by decide)), setI_at]
    · rw [setI_ne (Or.inl (by decide)), setI_ne (Or.inl (by decide)), setI_ne (Or.inl (by decide)), setI_at]
    · have hq : q < m := hq
      match q, hq with
      | 0, hq => rw [setI_ne (Or.inr (by decide)), setI_ne (Or.inr (by decide)), setI_at]; exact (h0 hq).symm
      | 1, hq => rw [setI_ne (Or.inr (by decide)), setI_at]; exact (h1 hq).symm
      | 2, hq => rw [setI_at]; exact (h2 hq).symm
      | x + 3, hq => omega
theorem x_Te_chosenAt {l : Launch} {g : kx_G} {d : Nat} {h : kx_Mem} (hs : SC h) (B : TB) (hB : TBc B h) (a : Int32) : kx_Sp l g m_Te_chosenAt [.ref 42, .int a] h (d) 0 0 (fun v h' => v = some (.int (if 0 ≤ a ∧ a < nI B.2.1 then B.2.2 a.toNatClampNeg else -1)) ∧ h' = h) := by
  have b1 := hB.1.2
  refine kx_enter_e (lv := [_, _]) (by decide +kernel) (Nat.le_of_ble_eq_true rfl) rfl ?_
  refine kx_iload_n (pc := 0) (kx_dd d_Te_chosenAt 0 rfl) rfl rfl ?_
  refine kx_if_lt (pc := 1) (tgt := 26) (kx_dd d_Te_chosenAt 1 rfl) rfl (fun c1 => ?_) (fun c1 => ?_)
  · refine kx_iconst (pc := 26) (v := -1) (kx_dd d_Te_chosenAt 14 rfl) rfl ?_
    refine kx_iret (pc := 27) rfl (kx_dd d_Te_chosenAt 15 rfl) (Nat.le_refl _) (Nat.le_refl _) ?_
    exact ⟨by rw [if_neg (fun z => absurd z.1 (Int32.not_le.mpr c1))], rfl⟩
  · refine kx_iload_n (pc := 4) (kx_dd d_Te_chosenAt 2 rfl) rfl rfl ?_
    refine kx_aload_n (pc := 5) (kx_dd d_Te_chosenAt 3 rfl) rfl rfl ?_
    refine kx_getI (pc := 6) fl_Te_21 (hs.k 42 rfl) rfl (kx_dd d_Te_chosenAt 4 rfl) ?_
    refine kx_icmp_ge (pc := 9) (tgt := 26) (kx_dd d_Te_chosenAt 5 rfl) rfl (fun c9 => ?_) (fun c9 => ?_)
    · refine kx_iconst (pc := 26) (v := -1) (kx_dd d_Te_chosenAt 14 rfl) rfl ?_
      refine kx_iret (pc := 27) rfl (kx_dd d_Te_chosenAt 15 rfl) (Nat.le_refl _) (Nat.le_refl _) ?_
      rw [hB.2.2.1] at c9
      exact ⟨by rw [if_neg (fun z => absurd z.2 (Int32.not_lt.mpr c9))], rfl⟩
    · rw [hB.2.2.1] at c9
      refine kx_iload_n (pc := 12) (kx_dd d_Te_chosenAt 6 rfl) rfl rfl ?_
      refine kx_iconst (pc := 13) (v := 3) (kx_dd d_Te_chosenAt 7 rfl) rfl ?_
      refine kx_icmp_ge (pc := 14) (tgt := 26) (kx_dd d_Te_chosenAt 8 rfl) rfl (fun c14 => ?_) (fun c14 => ?_)
      · refine kx_iconst (pc := 26) (v := -1) (kx_dd d_Te_chosenAt 14 rfl) rfl ?_
        refine kx_iret (pc := 27) rfl (kx_dd d_Te_chosenAt 15 rfl) (Nat.le_refl _) (Nat.le_refl _) ?_
        exact absurd c14 (by have := Int32.not_le.mp c9; intro z; obtain ⟨q, hq, rfl⟩ := valP (n := B.2.1) (by omega) ⟨Int32.not_lt.mp c1, Int32.not_le.mp c9⟩; exact absurd z (nI_ge (b := 3) (by omega) (by decide)))
      · obtain ⟨q, hq, rfl⟩ := valP (n := B.2.1) (by omega) ⟨Int32.not_lt.mp c1, Int32.not_le.mp c9⟩
        have q3 : q < 3 := by omega
        refine kx_aload_n (pc := 17) (kx_dd d_Te_chosenAt 9 rfl) rfl rfl ?_
        refine kx_getR (pc := 18) (b := 44) fl_Te_17 (hs.k 42 rfl) rfl (hs.r 46 rfl) (kx_dd d_Te_chosenAt 10 rfl) ?_
        refine kx_iload_n (pc := 21) (kx_dd d_Te_chosenAt 11 rfl) rfl rfl ?_
        refine kx_ialdn (pc := 22) q (hs.t 44 rfl) rfl q3 (by decide) (kx_dd d_Te_chosenAt 12 rfl) ?_
        rw [hB.2.2.2 q hq]
        refine kx_goto (pc := 23) (tgt := 27) (kx_dd d_Te_chosenAt 13 rfl) rfl ?_
        refine kx_iret (pc := 27) rfl (kx_dd d_Te_chosenAt 15 rfl) (Nat.le_refl _) (Nat.le_refl _) ?_
        exact ⟨by rw [if_pos ⟨Int32.not_lt.mp c1, Int32.not_le.mp c9⟩, nI_clamp (by omega)], rfl⟩
