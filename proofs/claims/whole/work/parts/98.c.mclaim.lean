/-! top-level: the reference: claim, paper -/
/-- a claim more: its fields, its word -/
def addCS (s : CSt) (f : Nat → Int32) (w : Nat) : CSt := (s.1 + 1, fun c j => if c = s.1 then f j else s.2.1 c j, fun c => if c = s.1 then w else s.2.2 c)
def newF (a b c e m t : Nat) : Nat → Int32 := fun j => if j = 0 then nI a else if j = 1 then nI b else if j = 2 then nI c else if j = 3 then nI e else if j = 4 then nI m else if j = 5 then nI t else if j = 12 then -1 else 0
def addC (D : DK) (a b c e m t w : Nat) : DK := (D.1, D.2.1, addCS D.2.2.1 (newF a b c e m t) w, D.2.2.2)
/-- a paper more -/
def addP (D : DK) (c w i y t : Nat) : DK := (D.1, D.2.1, D.2.2.1, (D.2.2.2.1 + 1, upF D.2.2.2.2.1 D.2.2.2.1 c, upF D.2.2.2.2.2.1 D.2.2.2.1 w, upF D.2.2.2.2.2.2.1 D.2.2.2.1 i, upF D.2.2.2.2.2.2.2.1 D.2.2.2.1 y, upF D.2.2.2.2.2.2.2.2 D.2.2.2.1 t))
/-- rows of claims that are not there yet are empty -/
def ZRm (n : Nat) (h : kx_Mem) : Prop := ∀ c, n ≤ c → ∀ j, 7 ≤ j → j ≤ 16 → j ≠ 12 → h.1 (122 + j) c = 0
theorem cN_new {s : CSt} {f : Nat → Int32} {w j : Nat} : cN (addCS s f w) s.1 j = (f j).toNatClampNeg := by
  unfold cN addCS
  rw [show (s.1 + 1, (fun c j => if c = s.1 then f j else s.2.1 c j), fun c => if c = s.1 then w else s.2.2 c).2.1 s.1 j = if s.1 = s.1 then f j else s.2.1 s.1 j from rfl, if_pos rfl]
theorem cN_old {s : CSt} {f : Nat → Int32} {w c j : Nat} (h : c ≠ s.1) : cN (addCS s f w) c j = cN s c j := by
  unfold cN addCS
  rw [show (s.1 + 1, (fun c j => if c = s.1 then f j else s.2.1 c j), fun c => if c = s.1 then w else s.2.2 c).2.1 c j = if c = s.1 then f j else s.2.1 c j from rfl, if_neg h]
theorem addC_ok {D : DK} (ho : DKok D) {a b c e m t w : Nat} (hn : D.2.2.1.1 < 60) (ha : a < D.1.1) (hb : b ≤ 3) (hc : c < D.2.1.1) (he : e ≤ 3) (hm : m ≤ 999999) (ht : t ≤ 1999) (hd : D.2.1.2.1 c ≤ t) (hw0 : 0 < w) (hw : w < 2 ^ 60) : DKok (addC D a b c e m t w) := by
  have oP := ho.1.1
  have oT := ho.2.1.1
  obtain ⟨h1, h2, ⟨h3, h4⟩, ⟨h5, h6⟩⟩ := ho
  refine ⟨h1, h2, ⟨?_, fun q hq => ?_⟩, ⟨h5, fun k hk => ?_⟩⟩
  · show D.2.2.1.1 + 1 ≤ 60
    omega
  · have hq : q < D.2.2.1.1 + 1 := hq
    by_cases eq : q = D.2.2.1.1
    · subst eq
      have v : ∀ j, cN (addC D a b c e m t w).2.2.1 D.2.2.1.1 j = (newF a b c e m t j).toNatClampNeg := fun j => cN_new
      have z : ∀ j, (addC D a b c e m t w).2.2.1.2.1 D.2.2.1.1 j = newF a b c e m t j := fun j => if_pos rfl
      have k0 : (nI a).toNatClampNeg = a := nI_clamp (by omega)
      have k1 : (nI b).toNatClampNeg = b := nI_clamp (by omega)
      have k2 : (nI c).toNatClampNeg = c := nI_clamp (by omega)
      have k3 : (nI e).toNatClampNeg = e := nI_clamp (by omega)
      have k4 : (nI m).toNatClampNeg = m := nI_clamp (by omega)
      have k5 : (nI t).toNatClampNeg = t := nI_clamp (by omega)
      refine ⟨fun j q1 q2 q3 q4 => ?_, ?_, ?_, ?_, ?_, ?_, ?_, ?_, ?_, ?_, ?_, ?_, ?_, ?_, ?_, ?_, ?_, ?_⟩
      · rw [z, v]
        unfold newF
        split
        · rw [k0]
        · split
          · rw [k1]
          · split
            · rw [k2]
            · split
              · rw [k3]
              · split
                · rw [k4]
                · split
                  · rw [k5]
                  · first | (rw [if_neg q4]; rfl) | rfl
      · rw [v]; exact Nat.lt_of_le_of_lt (Nat.le_of_eq k0) ha
      · rw [v]; exact Nat.le_trans (Nat.le_of_eq k1) hb
      · rw [v]; exact Nat.lt_of_le_of_lt (Nat.le_of_eq k2) hc
      · rw [v]; exact Nat.le_trans (Nat.le_of_eq k3) he
      · rw [v]; exact Nat.le_trans (Nat.le_of_eq k4) hm
      · rw [v]; exact Nat.le_trans (Nat.le_of_eq k5) ht
      · rw [v, v]
        show D.2.1.2.1 ((nI c).toNatClampNeg) ≤ (nI t).toNatClampNeg
        rw [k2, k5]; exact hd
      · rw [v]; exact Nat.zero_le _
      · rw [v]; exact Nat.zero_le _
      · rw [v]; exact Nat.zero_le _
      · rw [v]; exact Nat.zero_le _
      · rw [v]; exact Nat.zero_le _
      · rw [v]; exact Nat.zero_le _
      · rw [v]; exact Nat.zero_le _
      · rw [v]; exact Nat.zero_le _
      · show 0 < (if D.2.2.1.1 = D.2.2.1.1 then w else _)
        rw [if_pos rfl]; exact hw0
      · show (if D.2.2.1.1 = D.2.2.1.1 then w else _) < _
        rw [if_pos rfl]; exact hw
    · have v : ∀ j, cN (addC D a b c e m t w).2.2.1 q j = cN D.2.2.1 q j := fun j => cN_old eq
      have z : ∀ j, (addC D a b c e m t w).2.2.1.2.1 q j = D.2.2.1.2.1 q j := fun j => if_neg eq
      have zw : (addC D a b c e m t w).2.2.1.2.2 q = D.2.2.1.2.2 q := if_neg eq
      have := h4 q (by omega)
      simp only [v, z, zw]
      exact this
  · have := h6 k hk
    exact ⟨Nat.lt_succ_of_lt this.1, this.2⟩
theorem addP_ok {D : DK} (ho : DKok D) {c w i y t : Nat} (hn : D.2.2.2.1 < 150) (hc : c < D.2.2.1.1) (hw0 : 0 < w) (hw : w < 2 ^ 60) (hi : i ≤ D.1.1) (hy : y ≤ 1999) (ht : t ≤ 1999) : DKok (addP D c w i y t) := by
  obtain ⟨h1, h2, h3, ⟨h5, h6⟩⟩ := ho
  refine ⟨h1, h2, h3, ⟨?_, fun k hk => ?_⟩⟩
  · show D.2.2.2.1 + 1 ≤ 150
    omega
  · have hk : k < D.2.2.2.1 + 1 := hk
    show upF _ _ _ k < _ ∧ 0 < upF _ _ _ k ∧ upF _ _ _ k < _ ∧ upF _ _ _ k ≤ _ ∧ upF _ _ _ k ≤ _ ∧ upF _ _ _ k ≤ _
    unfold upF
    by_cases e : k = D.2.2.2.1
    · simp only [if_pos e]
      exact ⟨hc, hw0, hw, hi, hy, ht⟩
    · simp only [if_neg e]
      exact h6 k (by omega)
theorem CSm.ex {s : CSt} {n n' : Nat} {T T' : Nat → Nat} {h : kx_Mem} (hp : CSm s n T h) (he : WEx n T n' T') : CSm s n' T' h := ⟨hp.1, fun c hc => ⟨(hp.2 c hc).1, (hp.2 c hc).2.1, (hp.2 c hc).2.2.ex he⟩⟩
theorem FSm.ex {s : FSt} {n n' : Nat} {T T' : Nat → Nat} {h : kx_Mem} (hp : FSm s n T h) (he : WEx n T n' T') : FSm s n' T' h := ⟨hp.1, fun k hk => ⟨(hp.2 k hk).1, (hp.2 k hk).2.1.ex he, (hp.2 k hk).2.2⟩⟩
theorem DKm.ex {D : DK} {n n' : Nat} {T T' : Nat → Nat} {h : kx_Mem} (hp : DKm D n T h) (he : WEx n T n' T') : DKm D n' T' h := ⟨hp.1, hp.2.1, hp.2.2.1.ex he, hp.2.2.2.ex he⟩
theorem RSm.fx {s : RS} {P : Nat → Nat → Prop} {h h' : kx_Mem} (hp : RSm s h) (hf : ∀ a j, ¬ P a j → h'.1 a j = h.1 a j) (hP : ∀ a j, (a = 84 ∧ j = 35) ∨ (113 ≤ a ∧ a ≤ 115) → ¬ P a j) : RSm s h' := ⟨by rw [hf 84 35 (hP _ _ (by omega))]; exact hp.1, fun k hk => by rw [hf 113 k (hP _ _ (by omega)), hf 114 k (hP _ _ (by omega)), hf 115 k (hP _ _ (by omega))]; exact hp.2 k hk⟩
theorem DKm.addC {D : DK} {n : Nat} {T : Nat → Nat} {h h' : kx_Mem} {a b c e m t w : Nat} (hp : DKm D n T h) (hz : ZRm D.2.2.1.1 h) (hf : ∀ x j, ¬ ((x = 84 ∧ j = 51) ∨ ((122 ≤ x ∧ x ≤ 128 ∨ x = 134) ∧ j = D.2.2.1.1)) → h'.1 x j = h.1 x j) (e51 : h'.1 84 51 = nI (D.2.2.1.1 + 1)) (e0 : h'.1 122 D.2.2.1.1 = nI a) (e1 : h'.1 123 D.2.2.1.1 = nI b) (e2 : h'.1 124 D.2.2.1.1 = nI c) (e3 : h'.1 125 D.2.2.1.1 = nI e) (e4 : h'.1 126 D.2.2.1.1 = nI m) (e6 : wdI n T w (h'.1 127 D.2.2.1.1)) (e5 : h'.1 128 D.2.2.1.1 = nI t) (e12 : h'.1 134 D.2.2.1.1 = -1) : DKm (addC D a b c e m t w) n T h' ∧ ZRm (D.2.2.1.1 + 1) h' := by
  have hx : DKm D n T (fun x j => if (x = 84 ∧ j = 51) ∨ ((122 ≤ x ∧ x ≤ 128 ∨ x = 134) ∧ j = D.2.2.1.1) then h.1 x j else h'.1 x j, h'.2) := hp.fx (P := fun _ _ => False) (fun x j _ => by
    show (if _ then _ else _) = _
    split
    · rfl
    next z => exact hf x j z) (fun _ _ _ z => z)
  have er : ∀ x j, ¬ ((x = 84 ∧ j = 51) ∨ ((122 ≤ x ∧ x ≤ 128 ∨ x = 134) ∧ j = D.2.2.1.1)) → h'.1 x j = h.1 x j := hf
  obtain ⟨⟨p1, p2, p3⟩, ⟨t1, t2⟩, ⟨c1, c2⟩, ⟨f1, f2⟩⟩ := hp
  refine ⟨⟨⟨by rw [er 84 33 (by omega)]; exact p1, by rw [er 84 34 (by omega)]; exact p2, fun k hk => ?_⟩, ⟨by rw [er 84 50 (by omega)]; exact t1, fun k hk => ?_⟩, ⟨e51, fun q hq => ?_⟩, ⟨by rw [er 84 52 (by omega)]; exact f1, fun k hk => ?_⟩⟩, fun q hq j j1 j2 j3 => ?_⟩
  · rw [er 107 k (by omega), er 108 k (by omega), er 109 k (by omega), er 110 k (by omega), er 111 k (by omega), er 112 k (by omega)]
    exact p3 k hk
  · rw [er 118 k (by omega), er 119 k (by omega), er 120 k (by omega)]
    exact t2 k hk
  · have hq : q < D.2.2.1.1 + 1 := hq
    by_cases eq : q = D.2.2.1.1
    · subst eq
      refine ⟨fun j q1 q2 q3 => ?_, ?_, ?_⟩
      · show h'.1 (122 + j) D.2.2.1.1 = (if D.2.2.1.1 = D.2.2.1.1 then newF a b c e m t j else _)
        rw [if_pos rfl]
        unfold newF
        by_cases j0 : j = 0
        · rw [if_pos j0, j0]; exact e0
        · rw [if_neg j0]
          by_cases j1 : j = 1
          · rw [if_pos j1, j1]; exact e1
          · rw [if_neg j1]
            by_cases j2 : j = 2
            · rw [if_pos j2, j2]; exact e2
            · rw [if_neg j2]
              by_cases j3 : j = 3
              · rw [if_pos j3, j3]; exact e3
              · rw [if_neg j3]
                by_cases j4 : j = 4
                · rw [if_pos j4, j4]; exact e4
                · rw [if_neg j4, if_neg q2]
                  by_cases j12 : j = 12
                  · rw [if_pos j12, j12]; exact e12
                  · rw [if_neg j12, er (122 + j) D.2.2.1.1 (by omega)]
                    exact hz D.2.2.1.1 (Nat.le_refl _) j (by omega) (by omega) j12
      · show h'.1 128 D.2.2.1.1 = (if D.2.2.1.1 = D.2.2.1.1 then newF a b c e m t 5 else _)
        rw [if_pos rfl]; exact e5
      · show wdI n T (if D.2.2.1.1 = D.2.2.1.1 then w else _) _
        rw [if_pos rfl]; exact e6
    · obtain ⟨x1, x2, x3⟩ := c2 q (by omega)
      refine ⟨fun j q1 q2 q3 => ?_, ?_, ?_⟩
      · show h'.1 (122 + j) q = (if q = D.2.2.1.1 then _ else D.2.2.1.2.1 q j)
        rw [if_neg eq, er (122 + j) q (by omega)]; exact x1 j q1 q2 q3
      · show h'.1 128 q = (if q = D.2.2.1.1 then _ else D.2.2.1.2.1 q 5)
        rw [if_neg eq, er 128 q (by omega)]; exact x2
      · show wdI n T (if q = D.2.2.1.1 then w else D.2.2.1.2.2 q) _
        rw [if_neg eq, er 127 q (by omega)]; exact x3
  · rw [er 139 k (by omega), er 140 k (by omega), er 141 k (by omega), er 142 k (by omega), er 143 k (by omega)]
    exact f2 k hk
  · rw [er (122 + j) q (by omega)]
    exact hz q (by omega) j j1 j2 j3
theorem DKm.addP {D : DK} {n : Nat} {T : Nat → Nat} {h h' : kx_Mem} {c w i y t : Nat} (hp : DKm D n T h) (hf : ∀ x j, ¬ ((x = 84 ∧ j = 52) ∨ ((139 ≤ x ∧ x ≤ 143) ∧ j = D.2.2.2.1)) → h'.1 x j = h.1 x j) (e52 : h'.1 84 52 = nI (D.2.2.2.1 + 1)) (e0 : h'.1 139 D.2.2.2.1 = nI c) (e1 : wdI n T w (h'.1 140 D.2.2.2.1)) (e2 : h'.1 141 D.2.2.2.1 = nI i - 1) (e3 : h'.1 142 D.2.2.2.1 = nI y) (e4 : h'.1 143 D.2.2.2.1 = nI t) : DKm (addP D c w i y t) n T h' := by
  have er := hf
  obtain ⟨⟨p1, p2, p3⟩, ⟨t1, t2⟩, ⟨c1, c2⟩, ⟨f1, f2⟩⟩ := hp
  refine ⟨⟨by rw [er 84 33 (by omega)]; exact p1, by rw [er 84 34 (by omega)]; exact p2, fun k hk => ?_⟩, ⟨by rw [er 84 50 (by omega)]; exact t1, fun k hk => ?_⟩, ⟨by rw [er 84 51 (by omega)]; exact c1, fun q hq => ?_⟩, ⟨e52, fun k hk => ?_⟩⟩
  · rw [er 107 k (by omega), er 108 k (by omega), er 109 k (by omega), er 110 k (by omega), er 111 k (by omega), er 112 k (by omega)]
    exact p3 k hk
  · rw [er 118 k (by omega), er 119 k (by omega), er 120 k (by omega)]
    exact t2 k hk
  · obtain ⟨x1, x2, x3⟩ := c2 q hq
    exact ⟨fun j q1 q2 q3 => by rw [er (122 + j) q (by omega)]; exact x1 j q1 q2 q3, by rw [er 128 q (by omega)]; exact x2, by rw [er 127 q (by omega)]; exact x3⟩
  · have hk : k < D.2.2.2.1 + 1 := hk
    show h'.1 139 k = nI (upF _ _ _ k) ∧ wdI n T (upF _ _ _ k) (h'.1 140 k) ∧ h'.1 141 k = nI (upF _ _ _ k) - 1 ∧ h'.1 142 k = nI (upF _ _ _ k) ∧ h'.1 143 k = nI (upF _ _ _ k)
    unfold upF
    by_cases e : k = D.2.2.2.1
    · subst e
      simp only [if_true]
      exact ⟨e0, e1, e2, e3, e4⟩
    · simp only [if_neg e]
      rw [er 139 k (by omega), er 140 k (by omega), er 141 k (by omega), er 142 k (by omega), er 143 k (by omega)]
      exact f2 k (by omega)
/-- what claim asks of its numbers -/
def clmP (D : DK) (a b c e u m : Int32) : Prop := (0 ≤ a ∧ a < nI D.1.1) ∧ (0 ≤ b ∧ b ≤ 3) ∧ (0 ≤ c ∧ c < nI D.2.1.1) ∧ (0 ≤ e ∧ e ≤ 3) ∧ (0 ≤ u ∧ u ≤ 3) ∧ (1 ≤ m ∧ m ≤ 9999999)
noncomputable def clmR (D : DK) (rs : RS) (td w : Nat) (a b c e u m : Int32) : Int32 × DK := @ite _ (clmP D a b c e u m) (Classical.propDecidable _) (if w = 0 then (-1, D) else if D.2.2.1.1 = 60 then (-3, D) else (nI D.2.2.1.1, addC D a.toNatClampNeg b.toNatClampNeg c.toNatClampNeg e.toNatClampNeg (amtF rs m.toNatClampNeg u.toNatClampNeg (D.2.1.2.1 c.toNatClampNeg)) td w)) (-2, D)
def papP (D : DK) (a b c : Int32) : Prop := (0 ≤ a ∧ a < nI D.2.2.1.1) ∧ (b = -1 ∨ (0 ≤ b ∧ b < nI D.1.1)) ∧ (0 ≤ c ∧ c ≤ 1999)
noncomputable def papR (D : DK) (td w : Nat) (a b c : Int32) : Int32 × DK := @ite _ (papP D a b c) (Classical.propDecidable _) (if w = 0 then (-1, D) else if D.2.2.2.1 = 150 then (-3, D) else (nI D.2.2.2.1, addP D a.toNatClampNeg w (b + 1).toNatClampNeg c.toNatClampNeg td)) (-2, D)
theorem ratF_le {s : RS} (ho : RSok s) {c day : Nat} : ratF s c day ≤ 99999 := (ratK_le ho s.1 (Nat.le_refl _)).2.1
theorem amtF_le {s : RS} {m c day : Nat} : amtF s m c day ≤ 999999 := by unfold amtF; split <;> omega
theorem isuI {n : Nat} (hn : n ≤ 60) {b : Int32} (h : b = -1 ∨ (0 ≤ b ∧ b < nI n)) : ∃ i, i ≤ n ∧ b = nI i - 1 ∧ (b + 1).toNatClampNeg = i := by
  rcases h with rfl | h
  · exact ⟨0, Nat.zero_le _, rfl, rfl⟩
  · obtain ⟨k, hk, rfl⟩ := valP (n := n) (by omega) h
    exact ⟨k + 1, by omega, by rw [show (1 : Int32) = nI 1 from rfl, pk_sub (by omega), Nat.add_sub_cancel], by rw [nI_1, nI_clamp (by omega)]⟩
theorem val03 {a : Int32} (h : 0 ≤ a ∧ a ≤ 3) : ∃ k, k ≤ 3 ∧ a = nI k := by
  obtain ⟨k, hk, rfl⟩ := nI_of (Int32.not_lt.mpr h.1)
  exact ⟨k, (nI_leI (b := 3) hk (by decide)).mp h.2, rfl⟩
/-- what the reference's claim and paper leave -/
def CpQ (X : Int32 × DK) (F : Nat → Nat → Prop) (nw : Nat) (T : Nat → Nat) (z : Nat) (h : kx_Mem) (v : Option Value) (h' : kx_Mem) : Prop := ∃ nw' T', WEx nw T nw' T' ∧ WDm nw' T' (z + 1) h' ∧ h'.1 84 5 = 0 ∧ v = some (.int X.1) ∧ DKok X.2 ∧ DKm X.2 nw' T' h' ∧ ZRm X.2.2.2.1.1 h' ∧ kx_Fc F h h'
def FrC (a j : Nat) : Prop := FrW a j ∨ (a = 84 ∧ (j = 51 ∨ j = 52)) ∨ (122 ≤ a ∧ a ≤ 143)
theorem ZRm.f {n : Nat} {P : Nat → Nat → Prop} {h h' : kx_Mem} (hz : ZRm n h) (hf : ∀ a j, ¬ P a j → h'.1 a j = h.1 a j) (hP : ∀ a j, 129 ≤ a → a ≤ 138 → n ≤ j → ¬ P a j) : ZRm n h' := fun c hc j j1 j2 j3 => by rw [hf _ _ (hP _ _ (by omega) (by omega) hc)]; exact hz c hc j j1 j2 j3
theorem y_claim {l : Launch} {g : kx_G} {d : Nat} {h : kx_Mem} (b : Nat → Int32) (n nw : Nat) (T : Nat → Nat) (z : Nat) (hm : SM h) (hby : BY b) (htp : h.1 84 5 = nI n ∧ n ≤ 600 ∧ ∀ k, k < n → h.1 88 k = b k) (hwd : WDm nw T z h) (hz : z < 1960) (D : DK) (ho : DKok D) (hp : DKm D nw T h) (hzr : ZRm D.2.2.1.1 h) (td : Nat) (htd : td ≤ 1999) (hck : h.1 84 36 = nI td) (htd2 : ∀ q, q < D.2.1.1 → D.2.1.2.1 q ≤ td) (rs : RS) (hro : RSok rs) (hRm : RSm rs h) (a b1 c e u m : Int32) : kx_Sp l g m_Mo_claim [.ref 84, .int a, .int b1, .int c, .int e, .int u, .int m] h (d + 3) 0 0 (fun v h' => CpQ (clmR D rs td (oneW b n) a b1 c e u m) FrC nw T z h v h') := by
  obtain ⟨e5, hn6, hbb⟩ := htp
  have o1 := ho.2.2.1.1
  have oP := ho.1.1
  have oT := ho.2.1.1
  have oF := ho.2.2.2.1
  refine kx_enter_e (lv := [_, _, _, _, _, _, _, _]) (by decide +kernel) (Nat.le_of_ble_eq_true rfl) rfl ?_
  refine kx_aload_n (pc := 0) (kx_dd d_Mo_claim 0 rfl) rfl rfl ?_
  refine kx_invV (pc := 1) (a := 84) (as := []) (kx_dd d_Mo_claim 1 rfl) ⟨lk_Mo_236, wi_Mo_open, we_Mo_open⟩ w_Mo_open (hm.k 0 rfl) rfl rfl rfl rfl (Nat.le_of_ble_eq_true rfl) (y_open (d := d + 2) hm) (Nat.le_refl _) ⟨Nat.le_refl _, Nat.le_refl _⟩ (fun v h' hq => ?_)
  revert h'
  intro h1 hq
  obtain ⟨rfl, he1⟩ := hq
  have hf1 : kx_Fc (fun a j => a = 84 ∧ (j = 5 ∨ j = 6 ∨ j = 8)) h h1 := by rw [he1]; exact ((kx_Fc.set ⟨rfl, by omega⟩).tr (kx_Fc.set ⟨rfl, by omega⟩)).tr (kx_Fc.set ⟨rfl, by omega⟩)
  have e6 : h1.1 84 6 = nI n := by rw [he1, setI_ne (Or.inr (by decide)), setI_ne (Or.inr (by decide)), setI_at]; exact e5
  have e5b : h1.1 84 5 = 0 := by rw [he1, setI_ne (Or.inr (by decide)), setI_at]
  have e8 : h1.1 84 8 = nI 0 := by rw [he1, setI_at]; rfl
  clear he1
  have hm : SM h1 := hm.fc hf1
  have hp1 : DKm D nw T h1 := hp.fx hf1.2 (fun a j z => by omega)
  have hz1 : ZRm D.2.2.1.1 h1 := hzr.f hf1.2 (fun a j q1 q2 q3 => by omega)
  have hw1 : WDm nw T z h1 := ⟨hwd.1, hwd.2.1.fc hf1 (by omega) (fun j => ⟨by omega, by omega⟩), hwd.2.2⟩
  have hF1 : kx_Fc FrC h h1 := hf1.mono (fun a j q => by unfold FrC FrW; omega)
  have hck1 : h1.1 84 36 = nI td := by rw [hf1.2 84 36 (by omega)]; exact hck
  refine kx_aload_n (pc := 4) (kx_dd d_Mo_claim 2 rfl) rfl rfl ?_
  refine kx_iload_n (pc := 5) (kx_dd d_Mo_claim 3 rfl) rfl rfl ?_
  refine kx_invV (pc := 6) (a := 84) (as := [_]) (kx_dd d_Mo_claim 4 rfl) ⟨lk_Mo_435, wi_Mo_isPerson, we_Mo_isPerson⟩ w_Mo_isPerson (hm.k 0 rfl) rfl rfl rfl rfl (Nat.le_of_ble_eq_true rfl) (y_isPerson (d := d + 1) hm D.1 ho.1 hp1.1 a) (Nat.le_refl _) ⟨Nat.le_refl _, Nat.le_refl _⟩ (fun v h' hq => ?_)
  obtain ⟨rfl, he⟩ := hq
  rw [he]
  clear he
  refine kx_if_eq (pc := 9) (tgt := 66) (kx_dd d_Mo_claim 5 rfl) rfl (fun c9 => ?_) (fun c9 => ?_)
  · refine kx_bipush (pc := 66) (v := -2) (kx_dd d_Mo_claim 31 rfl) rfl ?_
    refine kx_iret (pc := 68) rfl (kx_dd d_Mo_claim 32 rfl) (Nat.le_refl _) (Nat.le_refl _) ?_
    have eR : clmR D rs td (oneW b n) a b1 c e u m = (-2, D) := if_neg (fun x => bP_0.mp c9 x.1)
    show CpQ _ _ _ _ _ _ _ _
    rw [eR]
    exact ⟨nw, T, WEx.rf, ⟨hw1.1, hw1.2.1, Nat.le_succ_of_le hw1.2.2⟩, e5b, rfl, ho, hp1, hz1, hF1⟩
  · have c9 := (bP_ti _).mp c9
    refine kx_iload_n (pc := 12) (kx_dd d_Mo_claim 6 rfl) rfl rfl ?_
    refine kx_invS (pc := 13) (as := [_]) (kx_dd d_Mo_claim 7 rfl) ⟨lk_Mo_438, wt_Mo_isNation⟩ w_Mo_isNation rfl rfl (Nat.le_of_ble_eq_true rfl) (y_isNation (d := d + 1) b1) (Nat.le_refl _) ⟨Nat.le_refl _, Nat.le_refl _⟩ (fun v h' hq => ?_)
    obtain ⟨rfl, he⟩ := hq
    rw [he]
    clear he
    refine kx_if_eq (pc := 16) (tgt := 66) (kx_dd d_Mo_claim 8 rfl) rfl (fun c16 => ?_) (fun c16 => ?_)
    · refine kx_bipush (pc := 66) (v := -2) (kx_dd d_Mo_claim 31 rfl) rfl ?_
      refine kx_iret (pc := 68) rfl (kx_dd d_Mo_claim 32 rfl) (Nat.le_refl _) (Nat.le_refl _) ?_
      have eR : clmR D rs td (oneW b n) a b1 c e u m = (-2, D) := if_neg (fun x => bP_0.mp c16 x.2.1)
      show CpQ _ _ _ _ _ _ _ _
      rw [eR]
      exact ⟨nw, T, WEx.rf, ⟨hw1.1, hw1.2.1, Nat.le_succ_of_le hw1.2.2⟩, e5b, rfl, ho, hp1, hz1, hF1⟩
    · have c16 := (bP_ti _).mp c16
      refine kx_aload_n (pc := 19) (kx_dd d_Mo_claim 9 rfl) rfl rfl ?_
      refine kx_iload_n (pc := 20) (kx_dd d_Mo_claim 10 rfl) rfl rfl ?_
      refine kx_invV (pc := 21) (a := 84) (as := [_]) (kx_dd d_Mo_claim 11 rfl) ⟨lk_Mo_500, wi_Mo_isThing, we_Mo_isThing⟩ w_Mo_isThing (hm.k 0 rfl) rfl rfl rfl rfl (Nat.le_of_ble_eq_true rfl) (y_isThing (d := d + 1) hm D.2.1.1 (by omega) hp1.2.1.1 c) (Nat.le_refl _) ⟨Nat.le_refl _, Nat.le_refl _⟩ (fun v h' hq => ?_)
      obtain ⟨rfl, he⟩ := hq
      rw [he]
      clear he
      rw [hp1.2.1.1]
      refine kx_if_eq (pc := 24) (tgt := 66) (kx_dd d_Mo_claim 12 rfl) rfl (fun c24 => ?_) (fun c24 => ?_)
      · refine kx_bipush (pc := 66) (v := -2) (kx_dd d_Mo_claim 31 rfl) rfl ?_
        refine kx_iret (pc := 68) rfl (kx_dd d_Mo_claim 32 rfl) (Nat.le_refl _) (Nat.le_refl _) ?_
        have eR : clmR D rs td (oneW b n) a b1 c e u m = (-2, D) := if_neg (fun x => bP_0.mp c24 x.2.2.1)
        show CpQ _ _ _ _ _ _ _ _
        rw [eR]
        exact ⟨nw, T, WEx.rf, ⟨hw1.1, hw1.2.1, Nat.le_succ_of_le hw1.2.2⟩, e5b, rfl, ho, hp1, hz1, hF1⟩
      · have c24 := (bP_ti _).mp c24
        refine kx_iload (pc := 27) (kx_dd d_Mo_claim 13 rfl) rfl ?_
        refine kx_i2l (pc := 29) (kx_dd d_Mo_claim 14 rfl) ?_
        refine kx_lconst (pc := 30) (v := 0) (kx_dd d_Mo_claim 15 rfl) rfl ?_
        refine kx_ldc2 (pc := 31) kl_Mo_234 (kx_dd d_Mo_claim 16 rfl) ?_
        refine kx_invS (pc := 34) (as := [_, _, _]) (kx_dd d_Mo_claim 17 rfl) ⟨lk_Mo_5, wt_Mo_in⟩ w_Mo_in rfl rfl (Nat.le_of_ble_eq_true rfl) (y_in (d := d + 2) _ _ _) (Nat.le_refl _) ⟨Nat.le_refl _, Nat.le_refl _⟩ (fun v h' hq => ?_)
        obtain ⟨rfl, he⟩ := hq
        rw [he]
        clear he
        rw [show (0 : Int64) = (0 : Int32).toInt64 by decide, show (3 : Int64) = (3 : Int32).toInt64 by decide, w_le, w_le]
        refine kx_if_eq (pc := 37) (tgt := 66) (kx_dd d_Mo_claim 18 rfl) rfl (fun c37 => ?_) (fun c37 => ?_)
        · refine kx_bipush (pc := 66) (v := -2) (kx_dd d_Mo_claim 31 rfl) rfl ?_
          refine kx_iret (pc := 68) rfl (kx_dd d_Mo_claim 32 rfl) (Nat.le_refl _) (Nat.le_refl _) ?_
          have eR : clmR D rs td (oneW b n) a b1 c e u m = (-2, D) := if_neg (fun x => bP_0.mp c37 x.2.2.2.1)
          show CpQ _ _ _ _ _ _ _ _
          rw [eR]
          exact ⟨nw, T, WEx.rf, ⟨hw1.1, hw1.2.1, Nat.le_succ_of_le hw1.2.2⟩, e5b, rfl, ho, hp1, hz1, hF1⟩
        · have c37 := (bP_ti _).mp c37
          refine kx_iload (pc := 40) (kx_dd d_Mo_claim 19 rfl) rfl ?_
          refine kx_i2l (pc := 42) (kx_dd d_Mo_claim 20 rfl) ?_
          refine kx_lconst (pc := 43) (v := 0) (kx_dd d_Mo_claim 21 rfl) rfl ?_
          refine kx_ldc2 (pc := 44) kl_Mo_234 (kx_dd d_Mo_claim 22 rfl) ?_
          refine kx_invS (pc := 47) (as := [_, _, _]) (kx_dd d_Mo_claim 23 rfl) ⟨lk_Mo_5, wt_Mo_in⟩ w_Mo_in rfl rfl (Nat.le_of_ble_eq_true rfl) (y_in (d := d + 2) _ _ _) (Nat.le_refl _) ⟨Nat.le_refl _, Nat.le_refl _⟩ (fun v h' hq => ?_)
          obtain ⟨rfl, he⟩ := hq
          rw [he]
          clear he
          rw [show (0 : Int64) = (0 : Int32).toInt64 by decide, show (3 : Int64) = (3 : Int32).toInt64 by decide, w_le, w_le]
          refine kx_if_eq (pc := 50) (tgt := 66) (kx_dd d_Mo_claim 24 rfl) rfl (fun c50 => ?_) (fun c50 => ?_)
          · refine kx_bipush (pc := 66) (v := -2) (kx_dd d_Mo_claim 31 rfl) rfl ?_
            refine kx_iret (pc := 68) rfl (kx_dd d_Mo_claim 32 rfl) (Nat.le_refl _) (Nat.le_refl _) ?_
            have eR : clmR D rs td (oneW b n) a b1 c e u m = (-2, D) := if_neg (fun x => bP_0.mp c50 x.2.2.2.2.1)
            show CpQ _ _ _ _ _ _ _ _
            rw [eR]
            exact ⟨nw, T, WEx.rf, ⟨hw1.1, hw1.2.1, Nat.le_succ_of_le hw1.2.2⟩, e5b, rfl, ho, hp1, hz1, hF1⟩
          · have c50 := (bP_ti _).mp c50
            refine kx_iload (pc := 53) (kx_dd d_Mo_claim 25 rfl) rfl ?_
            refine kx_i2l (pc := 55) (kx_dd d_Mo_claim 26 rfl) ?_
            refine kx_lconst (pc := 56) (v := 1) (kx_dd d_Mo_claim 27 rfl) rfl ?_
            refine kx_ldc2 (pc := 57) kl_Mo_513 (kx_dd d_Mo_claim 28 rfl) ?_
            refine kx_invS (pc := 60) (as := [_, _, _]) (kx_dd d_Mo_claim 29 rfl) ⟨lk_Mo_5, wt_Mo_in⟩ w_Mo_in rfl rfl (Nat.le_of_ble_eq_true rfl) (y_in (d := d + 2) _ _ _) (Nat.le_refl _) ⟨Nat.le_refl _, Nat.le_refl _⟩ (fun v h' hq => ?_)
            obtain ⟨rfl, he⟩ := hq
            rw [he]
            clear he
            rw [show (1 : Int64) = (1 : Int32).toInt64 by decide, show (9999999 : Int64) = (9999999 : Int32).toInt64 by decide, w_le, w_le]
            refine kx_if_ne (pc := 63) (tgt := 69) (kx_dd d_Mo_claim 30 rfl) rfl (fun c63 => ?_) (fun c63 => ?_)
            · have c63 := (bP_ti _).mp c63
              have hcl : clmP D a b1 c e u m := ⟨c9, c16, c24, c37, c50, c63⟩
              obtain ⟨a9, ha9, rfl⟩ := valP (n := D.1.1) (by omega) c9
              obtain ⟨b9, hb9, rfl⟩ := val03 c16
              obtain ⟨c9, hc9, rfl⟩ := valP (n := D.2.1.1) (by omega) c24
              obtain ⟨e9, he9, rfl⟩ := val03 c37
              obtain ⟨u9, hu9, rfl⟩ := val03 c50
              obtain ⟨m9, hm9, rfl⟩ := valF c63
              have ht1 : TapM b n h1 := ⟨e6, hn6, fun k hk => by rw [hf1.2 88 k (by omega)]; exact hbb k hk⟩
              refine kx_aload_n (pc := 69) (kx_dd d_Mo_claim 33 rfl) rfl rfl ?_
              refine kx_invV (pc := 70) (a := 84) (as := []) (kx_dd d_Mo_claim 34 rfl) ⟨lk_Mo_264, wi_Mo_oneWord, we_Mo_oneWord⟩ w_Mo_oneWord (hm.k 0 rfl) rfl rfl rfl rfl (Nat.le_of_ble_eq_true rfl) (y_oneWord (d := d) hm b n nw T z ht1 hby e8 hw1 hz) (Nat.le_refl _) ⟨Nat.le_refl _, Nat.le_refl _⟩ (fun v h' hq => ?_)
              revert h'
              intro h3 hq
              obtain ⟨nw3, T3, hx3, hw3, hf3, hor⟩ := hq
              have hm : SM h3 := hm.fc hf3
              have hp3 : DKm D nw3 T3 h3 := (hp1.ex hx3).fx hf3.2 (fun a j z => by unfold FrV; omega)
              have hz3 : ZRm D.2.2.1.1 h3 := hz1.f hf3.2 (fun a j q1 q2 q3 => by unfold FrV; omega)
              have hF3 : kx_Fc FrC h h3 := hF1.tr (hf3.mono (fun a j q => by unfold FrV at q; unfold FrC FrW; omega))
              have e53 : h3.1 84 5 = 0 := (hf3.2 84 5 (by unfold FrV; omega)).trans e5b
              have hck3 : h3.1 84 36 = nI td := by rw [hf3.2 84 36 (by unfold FrV; omega)]; exact hck1
              have e51 : h3.1 84 51 = nI D.2.2.1.1 := hp3.2.2.1.1
              have e52 : h3.1 84 52 = nI D.2.2.2.1 := hp3.2.2.2.1
              rcases hor with ⟨o9, rfl⟩ | ⟨j9, j1, j2, j3, rfl⟩
              · refine kx_istore_e (pc := 73) (lv' := [_, _, _, _, _, _, _, _]) (kx_dd d_Mo_claim 35 rfl) (Nat.le_of_ble_eq_true rfl) rfl ?_
                refine kx_iload (pc := 75) (kx_dd d_Mo_claim 36 rfl) rfl ?_
                refine kx_iconst (pc := 77) (v := -1) (kx_dd d_Mo_claim 37 rfl) rfl ?_
                refine kx_icmp_ne (pc := 78) (tgt := 83) (kx_dd d_Mo_claim 38 rfl) rfl (fun c78 => ?_) (fun c78 => ?_)
                · exact absurd rfl c78
                · refine kx_iconst (pc := 81) (v := -1) (kx_dd d_Mo_claim 39 rfl) rfl ?_
                  refine kx_iret (pc := 82) rfl (kx_dd d_Mo_claim 40 rfl) (Nat.le_refl _) (Nat.le_refl _) ?_
                  have eR : clmR D rs td (oneW b n) (nI a9) (nI b9) (nI c9) (nI e9) (nI u9) (nI m9) = (-1, D) := by unfold clmR; rw [if_pos hcl, if_pos o9]
                  show CpQ _ _ _ _ _ _ _ _
                  rw [eR]
                  exact ⟨nw3, T3, hx3, hw3, e53, rfl, ho, hp3, hz3, hF3⟩
              · refine kx_istore_e (pc := 73) (lv' := [_, _, _, _, _, _, _, _]) (kx_dd d_Mo_claim 35 rfl) (Nat.le_of_ble_eq_true rfl) rfl ?_
                refine kx_iload (pc := 75) (kx_dd d_Mo_claim 36 rfl) rfl ?_
                refine kx_iconst (pc := 77) (v := -1) (kx_dd d_Mo_claim 37 rfl) rfl ?_
                refine kx_icmp_ne (pc := 78) (tgt := 83) (kx_dd d_Mo_claim 38 rfl) rfl (fun c78 => ?_) (fun c78 => ?_)
                · refine kx_aload_n (pc := 83) (kx_dd d_Mo_claim 41 rfl) rfl rfl ?_
                  refine kx_getI (pc := 84) fl_Mo_510 (hm.k 0 rfl) rfl (kx_dd d_Mo_claim 42 rfl) ?_
                  refine kx_bipush (pc := 87) (v := 60) (kx_dd d_Mo_claim 43 rfl) rfl ?_
                  refine kx_icmp_ne (pc := 89) (tgt := 95) (kx_dd d_Mo_claim 44 rfl) rfl (fun c89 => ?_) (fun c89 => ?_)
                  · rw [e51, show (60 : Int32) = nI 60 from rfl, nI_eq (by omega) (by decide)] at c89
                    have hdy : h3.1 118 c9 = nI (D.2.1.2.1 c9) := (hp3.2.1.2 c9 hc9).1
                    have hdl : D.2.1.2.1 c9 ≤ 1999 := (ho.2.1.2 c9 hc9).1
                    have hR3 : RSm rs h3 := (hRm.fx hf1.2 (fun a j z => by omega)).fx hf3.2 (fun a j z => by unfold FrV; omega)
                    have hrl := ratF_le hro (c := u9) (day := D.2.1.2.1 c9)
                    refine kx_aload_n (pc := 95) (kx_dd d_Mo_claim 47 rfl) rfl rfl ?_
                    refine kx_getR (pc := 96) (b := 122) fl_Mo_324 (hm.k 0 rfl) rfl (hm.r 37 rfl) (kx_dd d_Mo_claim 48 rfl) ?_
                    refine kx_aload_n (pc := 99) (kx_dd d_Mo_claim 49 rfl) rfl rfl ?_
                    refine kx_getI (pc := 100) fl_Mo_510 (hm.k 0 rfl) rfl (kx_dd d_Mo_claim 50 rfl) ?_
                    refine kx_iload_n (pc := 103) (kx_dd d_Mo_claim 51 rfl) rfl rfl ?_
                    refine kx_iastn (pc := 104) D.2.2.1.1 (hm.t 38 rfl) (by decide) e51 (by omega) (by decide) (kx_dd d_Mo_claim 52 rfl) ?_
                    refine kx_aload_n (pc := 105) (kx_dd d_Mo_claim 53 rfl) rfl rfl ?_
                    refine kx_getR (pc := 106) (b := 123) fl_Mo_327 (hm.k 0 rfl) rfl (hm.r 38 rfl) (kx_dd d_Mo_claim 54 rfl) ?_
                    refine kx_aload_n (pc := 109) (kx_dd d_Mo_claim 55 rfl) rfl rfl ?_
                    refine kx_getI (pc := 110) fl_Mo_510 (hm.k 0 rfl) rfl (kx_dd d_Mo_claim 56 rfl) ?_
                    refine kx_iload_n (pc := 113) (kx_dd d_Mo_claim 57 rfl) rfl rfl ?_
                    refine kx_iastn (pc := 114) D.2.2.1.1 (hm.t 39 rfl) (by decide) (by simp [kx_setI, kx_up]; exact e51) (by omega) (by decide) (kx_dd d_Mo_claim 58 rfl) ?_
                    refine kx_aload_n (pc := 115) (kx_dd d_Mo_claim 59 rfl) rfl rfl ?_
                    refine kx_getR (pc := 116) (b := 124) fl_Mo_330 (hm.k 0 rfl) rfl (hm.r 39 rfl) (kx_dd d_Mo_claim 60 rfl) ?_
                    refine kx_aload_n (pc := 119) (kx_dd d_Mo_claim 61 rfl) rfl rfl ?_
                    refine kx_getI (pc := 120) fl_Mo_510 (hm.k 0 rfl) rfl (kx_dd d_Mo_claim 62 rfl) ?_
                    refine kx_iload_n (pc := 123) (kx_dd d_Mo_claim 63 rfl) rfl rfl ?_
                    refine kx_iastn (pc := 124) D.2.2.1.1 (hm.t 40 rfl) (by decide) (by simp [kx_setI, kx_up]; exact e51) (by omega) (by decide) (kx_dd d_Mo_claim 64 rfl) ?_
                    refine kx_aload_n (pc := 125) (kx_dd d_Mo_claim 65 rfl) rfl rfl ?_
                    refine kx_getR (pc := 126) (b := 125) fl_Mo_333 (hm.k 0 rfl) rfl (hm.r 40 rfl) (kx_dd d_Mo_claim 66 rfl) ?_
                    refine kx_aload_n (pc := 129) (kx_dd d_Mo_claim 67 rfl) rfl rfl ?_
                    refine kx_getI (pc := 130) fl_Mo_510 (hm.k 0 rfl) rfl (kx_dd d_Mo_claim 68 rfl) ?_
                    refine kx_iload (pc := 133) (kx_dd d_Mo_claim 69 rfl) rfl ?_
                    refine kx_iastn (pc := 135) D.2.2.1.1 (hm.t 41 rfl) (by decide) (by simp [kx_setI, kx_up]; exact e51) (by omega) (by decide) (kx_dd d_Mo_claim 70 rfl) ?_
                    refine kx_aload_n (pc := 136) (kx_dd d_Mo_claim 71 rfl) rfl rfl ?_
                    refine kx_getR (pc := 137) (b := 126) fl_Mo_336 (hm.k 0 rfl) rfl (hm.r 41 rfl) (kx_dd d_Mo_claim 72 rfl) ?_
                    refine kx_aload_n (pc := 140) (kx_dd d_Mo_claim 73 rfl) rfl rfl ?_
                    refine kx_getI (pc := 141) fl_Mo_510 (hm.k 0 rfl) rfl (kx_dd d_Mo_claim 74 rfl) ?_
                    refine kx_ldc2 (pc := 144) kl_Mo_481 (kx_dd d_Mo_claim 75 rfl) ?_
                    refine kx_iload (pc := 147) (kx_dd d_Mo_claim 76 rfl) rfl ?_
                    refine kx_i2l (pc := 149) (kx_dd d_Mo_claim 77 rfl) ?_
                    refine kx_aload_n (pc := 150) (kx_dd d_Mo_claim 78 rfl) rfl rfl ?_
                    refine kx_iload (pc := 151) (kx_dd d_Mo_claim 79 rfl) rfl ?_
                    refine kx_aload_n (pc := 153) (kx_dd d_Mo_claim 80 rfl) rfl rfl ?_
                    refine kx_getR (pc := 154) (b := 118) fl_Mo_312 (hm.k 0 rfl) rfl (hm.r 33 rfl) (kx_dd d_Mo_claim 81 rfl) ?_
                    refine kx_iload_n (pc := 157) (kx_dd d_Mo_claim 82 rfl) rfl rfl ?_
                    refine kx_ialdn (pc := 158) c9 (hm.t 34 rfl) rfl (by omega) (by decide) (kx_dd d_Mo_claim 83 rfl) ?_
                    have hR4 : RSm rs (kx_setI (kx_setI (kx_setI (kx_setI h3 122 D.2.2.1.1 (nI a9)) 123 D.2.2.1.1 (nI b9)) 124 D.2.2.1.1 (nI c9)) 125 D.2.2.1.1 (nI e9)) := hR3.fx (P := fun a _ => 122 ≤ a) ((((kx_Fc.set (P := fun a _ => 122 ≤ a) (by decide)).tr (kx_Fc.set (by decide))).tr (kx_Fc.set (by decide))).tr (kx_Fc.set (by decide))).2 (fun a j z => by omega)
                    rw [show (kx_setI (kx_setI (kx_setI (kx_setI h3 122 D.2.2.1.1 (nI a9)) 123 D.2.2.1.1 (nI b9)) 124 D.2.2.1.1 (nI c9)) 125 D.2.2.1.1 (nI e9)).1 118 c9 = nI (D.2.1.2.1 c9) from by simp [kx_setI, kx_up]; exact hdy]
                    refine kx_invV (pc := 159) (a := 84) (as := [_, _]) (kx_dd d_Mo_claim 84 rfl) ⟨lk_Mo_473, wi_Mo_rateFor, we_Mo_rateFor⟩ w_Mo_rateFor (hm.k 0 rfl) rfl rfl rfl rfl (Nat.le_of_ble_eq_true rfl) (y_rateFor (d := d + 2) (h := (kx_setI (kx_setI (kx_setI (kx_setI h3 122 D.2.2.1.1 (nI a9)) 123 D.2.2.1.1 (nI b9)) 124 D.2.2.1.1 (nI c9)) 125 D.2.2.1.1 (nI e9))) hm rs hro hR4 u9 (D.2.1.2.1 c9) (by omega) (by omega)) (Nat.le_refl _) ⟨Nat.le_refl _, Nat.le_refl _⟩ (fun v h' hq => ?_)
                    obtain ⟨rfl, he⟩ := hq
                    rw [he]
                    clear he
                    refine kx_i2l (pc := 162) (kx_dd d_Mo_claim 85 rfl) ?_
                    refine kx_lmul (pc := 163) (kx_dd d_Mo_claim 86 rfl) ?_
                    refine kx_ldc2 (pc := 164) kl_Mo_515 (kx_dd d_Mo_claim 87 rfl) ?_
                    refine kx_ldiv (pc := 167) (kx_dd d_Mo_claim 88 rfl) (by decide) ?_
                    refine kx_mminL (pc := 168) mk_Mo_517 (kx_dd d_Mo_claim 89 rfl) (Nat.le_of_ble_eq_true rfl) (Nat.le_of_ble_eq_true rfl) (Nat.le_refl _) (Nat.le_refl _) ?_
                    refine kx_l2i (pc := 171) (kx_dd d_Mo_claim 90 rfl) ?_
                    rw [amtI (by omega) (by omega), show (if m9 * ratF rs u9 (D.2.1.2.1 c9) / 100 < 999999 then m9 * ratF rs u9 (D.2.1.2.1 c9) / 100 else 999999) = amtF rs m9 u9 (D.2.1.2.1 c9) from rfl]
                    refine kx_iastn (pc := 172) D.2.2.1.1 (hm.t 42 rfl) (by decide) (by simp [kx_setI, kx_up]; exact e51) (by omega) (by decide) (kx_dd d_Mo_claim 91 rfl) ?_
                    refine kx_aload_n (pc := 173) (kx_dd d_Mo_claim 92 rfl) rfl rfl ?_
                    refine kx_getR (pc := 174) (b := 127) fl_Mo_339 (hm.k 0 rfl) rfl (hm.r 42 rfl) (kx_dd d_Mo_claim 93 rfl) ?_
                    refine kx_aload_n (pc := 177) (kx_dd d_Mo_claim 94 rfl) rfl rfl ?_
                    refine kx_getI (pc := 178) fl_Mo_510 (hm.k 0 rfl) rfl (kx_dd d_Mo_claim 95 rfl) ?_
                    refine kx_iload (pc := 181) (kx_dd d_Mo_claim 96 rfl) rfl ?_
                    refine kx_iastn (pc := 183) D.2.2.1.1 (hm.t 43 rfl) (by decide) (by simp [kx_setI, kx_up]; exact e51) (by omega) (by decide) (kx_dd d_Mo_claim 97 rfl) ?_
                    refine kx_aload_n (pc := 184) (kx_dd d_Mo_claim 98 rfl) rfl rfl ?_
                    refine kx_getR (pc := 185) (b := 128) fl_Mo_342 (hm.k 0 rfl) rfl (hm.r 43 rfl) (kx_dd d_Mo_claim 99 rfl) ?_
                    refine kx_aload_n (pc := 188) (kx_dd d_Mo_claim 100 rfl) rfl rfl ?_
                    refine kx_getI (pc := 189) fl_Mo_510 (hm.k 0 rfl) rfl (kx_dd d_Mo_claim 101 rfl) ?_
                    refine kx_aload_n (pc := 192) (kx_dd d_Mo_claim 102 rfl) rfl rfl ?_
                    refine kx_getI (pc := 193) fl_Mo_426 (hm.k 0 rfl) rfl (kx_dd d_Mo_claim 103 rfl) ?_
                    rw [show (kx_setI (kx_setI (kx_setI (kx_setI (kx_setI (kx_setI h3 122 D.2.2.1.1 (nI a9)) 123 D.2.2.1.1 (nI b9)) 124 D.2.2.1.1 (nI c9)) 125 D.2.2.1.1 (nI e9)) 126 D.2.2.1.1 (nI (amtF rs m9 u9 (D.2.1.2.1 c9)))) 127 D.2.2.1.1 (nI j9)).1 84 36 = nI td from by simp [kx_setI, kx_up]; exact hck3]
                    refine kx_iastn (pc := 196) D.2.2.1.1 (hm.t 44 rfl) (by decide) (by simp [kx_setI, kx_up]; exact e51) (by omega) (by decide) (kx_dd d_Mo_claim 104 rfl) ?_
                    refine kx_aload_n (pc := 197) (kx_dd d_Mo_claim 105 rfl) rfl rfl ?_
                    refine kx_getR (pc := 198) (b := 134) fl_Mo_360 (hm.k 0 rfl) rfl (hm.r 49 rfl) (kx_dd d_Mo_claim 106 rfl) ?_
                    refine kx_aload_n (pc := 201) (kx_dd d_Mo_claim 107 rfl) rfl rfl ?_
                    refine kx_getI (pc := 202) fl_Mo_510 (hm.k 0 rfl) rfl (kx_dd d_Mo_claim 108 rfl) ?_
                    refine kx_iconst (pc := 205) (v := -1) (kx_dd d_Mo_claim 109 rfl) rfl ?_
                    refine kx_iastn (pc := 206) D.2.2.1.1 (hm.t 50 rfl) (by decide) (by simp [kx_setI, kx_up]; exact e51) (by omega) (by decide) (kx_dd d_Mo_claim 110 rfl) ?_
                    refine kx_aload_n (pc := 207) (kx_dd d_Mo_claim 111 rfl) rfl rfl ?_
                    refine kx_dup (pc := 208) (kx_dd d_Mo_claim 112 rfl) rfl ?_
                    refine kx_getI (pc := 209) fl_Mo_510 (hm.k 0 rfl) rfl (kx_dd d_Mo_claim 113 rfl) ?_
                    refine kx_iconst (pc := 212) (v := 1) (kx_dd d_Mo_claim 114 rfl) rfl ?_
                    refine kx_iadd (pc := 213) (kx_dd d_Mo_claim 115 rfl) ?_
                    rw [show (kx_setI (kx_setI (kx_setI (kx_setI (kx_setI (kx_setI (kx_setI (kx_setI h3 122 D.2.2.1.1 (nI a9)) 123 D.2.2.1.1 (nI b9)) 124 D.2.2.1.1 (nI c9)) 125 D.2.2.1.1 (nI e9)) 126 D.2.2.1.1 (nI (amtF rs m9 u9 (D.2.1.2.1 c9)))) 127 D.2.2.1.1 (nI j9)) 128 D.2.2.1.1 (nI td)) 134 D.2.2.1.1 (-1)).1 84 51 = nI D.2.2.1.1 from by simp [kx_setI, kx_up]; exact e51, nI_1]
                    refine kx_putI (pc := 214) fl_Mo_510 (hm.k 0 rfl) (by decide) rfl rfl (kx_dd d_Mo_claim 116 rfl) ?_
                    refine kx_aload_n (pc := 217) (kx_dd d_Mo_claim 117 rfl) rfl rfl ?_
                    refine kx_getI (pc := 218) fl_Mo_510 (hm.k 0 rfl) rfl (kx_dd d_Mo_claim 118 rfl) ?_
                    rw [setI_at]
                    refine kx_iconst (pc := 221) (v := 1) (kx_dd d_Mo_claim 119 rfl) rfl ?_
                    refine kx_isub (pc := 222) (kx_dd d_Mo_claim 120 rfl) ?_
                    rw [show (1 : Int32) = nI 1 from rfl, pk_sub (by omega), Nat.add_sub_cancel]
                    refine kx_iret (pc := 223) rfl (kx_dd d_Mo_claim 121 rfl) (Nat.le_refl _) (Nat.le_refl _) ?_
                    have eR : clmR D rs td (oneW b n) (nI a9) (nI b9) (nI c9) (nI e9) (nI u9) (nI m9) = (nI D.2.2.1.1, addC D a9 b9 c9 e9 (amtF rs m9 u9 (D.2.1.2.1 c9)) td (oneW b n)) := by unfold clmR; rw [if_pos hcl, if_neg (by omega), if_neg c89, nI_clamp (by omega), nI_clamp (by omega), nI_clamp (by omega), nI_clamp (by omega), nI_clamp (by omega), nI_clamp (by omega)]
                    show CpQ _ _ _ _ _ _ _ _
                    rw [eR]
                    have hf9 : kx_Fc (fun x j => (x = 84 ∧ j = 51) ∨ ((122 ≤ x ∧ x ≤ 128 ∨ x = 134) ∧ j = D.2.2.1.1)) h3 (kx_setI (kx_setI (kx_setI (kx_setI (kx_setI (kx_setI (kx_setI (kx_setI (kx_setI h3 122 D.2.2.1.1 (nI a9)) 123 D.2.2.1.1 (nI b9)) 124 D.2.2.1.1 (nI c9)) 125 D.2.2.1.1 (nI e9)) 126 D.2.2.1.1 (nI (amtF rs m9 u9 (D.2.1.2.1 c9)))) 127 D.2.2.1.1 (nI j9)) 128 D.2.2.1.1 (nI td)) 134 D.2.2.1.1 (-1)) 84 51 (nI (D.2.2.1.1 + 1))) := ((((((((kx_Fc.set (Or.inr ⟨by omega, rfl⟩)).tr (kx_Fc.set (Or.inr ⟨by omega, rfl⟩))).tr (kx_Fc.set (Or.inr ⟨by omega, rfl⟩))).tr (kx_Fc.set (Or.inr ⟨by omega, rfl⟩))).tr (kx_Fc.set (Or.inr ⟨by omega, rfl⟩))).tr (kx_Fc.set (Or.inr ⟨by omega, rfl⟩))).tr (kx_Fc.set (Or.inr ⟨by omega, rfl⟩))).tr (kx_Fc.set (Or.inr ⟨by omega, rfl⟩))).tr (kx_Fc.set (Or.inl ⟨rfl, rfl⟩))
                    obtain ⟨hp9, hz9⟩ := hp3.addC (w := oneW b n) (a := a9) (b := b9) (c := c9) (e := e9) (m := amtF rs m9 u9 (D.2.1.2.1 c9)) (t := td) hz3 hf9.2 setI_at (by simp [kx_setI, kx_up]) (by simp [kx_setI, kx_up]) (by simp [kx_setI, kx_up]) (by simp [kx_setI, kx_up]) (by simp [kx_setI, kx_up]) ⟨j9, j1, j2, by simp [kx_setI, kx_up]⟩ (by simp [kx_setI, kx_up]) (by simp [kx_setI, kx_up])
                    have hwl := hw3.1.2.2 j9 j1
                    rw [j2] at hwl
                    refine ⟨nw3, T3, hx3, ⟨hw3.1, hw3.2.1.fc hf9 (by omega) (fun j => ⟨by omega, by omega⟩), hw3.2.2⟩, (hf9.2 84 5 (by omega)).trans e53, rfl, addC_ok ho (by omega) ha9 hb9 hc9 he9 amtF_le htd (htd2 c9 hc9) hwl.1 hwl.2, hp9, hz9, hF3.tr (hf9.mono (fun a j q => by unfold FrC; omega))⟩
                  · refine kx_bipush (pc := 92) (v := -3) (kx_dd d_Mo_claim 45 rfl) rfl ?_
                    refine kx_iret (pc := 94) rfl (kx_dd d_Mo_claim 46 rfl) (Nat.le_refl _) (Nat.le_refl _) ?_
                    rw [e51, show (60 : Int32) = nI 60 from rfl, nI_eq (by omega) (by decide)] at c89
                    have eR : clmR D rs td (oneW b n) (nI a9) (nI b9) (nI c9) (nI e9) (nI u9) (nI m9) = (-3, D) := by unfold clmR; rw [if_pos hcl, if_neg (by omega), if_pos c89]
                    show CpQ _ _ _ _ _ _ _ _
                    rw [eR]
                    exact ⟨nw3, T3, hx3, hw3, e53, rfl, ho, hp3, hz3, hF3⟩
                · exact absurd c78 (nI_m2 (by have := hw3.1.1; omega))
            · refine kx_bipush (pc := 66) (v := -2) (kx_dd d_Mo_claim 31 rfl) rfl ?_
              refine kx_iret (pc := 68) rfl (kx_dd d_Mo_claim 32 rfl) (Nat.le_refl _) (Nat.le_refl _) ?_
              have eR : clmR D rs td (oneW b n) a b1 c e u m = (-2, D) := if_neg (fun x => bP_0.mp c63 x.2.2.2.2.2)
              show CpQ _ _ _ _ _ _ _ _
              rw [eR]
              exact ⟨nw, T, WEx.rf, ⟨hw1.1, hw1.2.1, Nat.le_succ_of_le hw1.2.2⟩, e5b, rfl, ho, hp1, hz1, hF1⟩
theorem y_paper {l : Launch} {g : kx_G} {d : Nat} {h : kx_Mem} (b : Nat → Int32) (n nw : Nat) (T : Nat → Nat) (z : Nat) (hm : SM h) (hby : BY b) (htp : h.1 84 5 = nI n ∧ n ≤ 600 ∧ ∀ k, k < n → h.1 88 k = b k) (hwd : WDm nw T z h) (hz : z < 1960) (D : DK) (ho : DKok D) (hp : DKm D nw T h) (hzr : ZRm D.2.2.1.1 h) (td : Nat) (htd : td ≤ 1999) (hck : h.1 84 36 = nI td) (a b2 c : Int32) : kx_Sp l g m_Mo_paper [.ref 84, .int a, .int b2, .int c] h (d + 3) 0 0 (fun v h' => CpQ (papR D td (oneW b n) a b2 c) FrC nw T z h v h') := by
  obtain ⟨e5, hn6, hbb⟩ := htp
  have o1 := ho.2.2.1.1
  have oP := ho.1.1
  have oT := ho.2.1.1
  have oF := ho.2.2.2.1
  refine kx_enter_e (lv := [_, _, _, _, _]) (by decide +kernel) (Nat.le_of_ble_eq_true rfl) rfl ?_
  refine kx_aload_n (pc := 0) (kx_dd d_Mo_paper 0 rfl) rfl rfl ?_
  refine kx_invV (pc := 1) (a := 84) (as := []) (kx_dd d_Mo_paper 1 rfl) ⟨lk_Mo_236, wi_Mo_open, we_Mo_open⟩ w_Mo_open (hm.k 0 rfl) rfl rfl rfl rfl (Nat.le_of_ble_eq_true rfl) (y_open (d := d + 2) hm) (Nat.le_refl _) ⟨Nat.le_refl _, Nat.le_refl _⟩ (fun v h' hq => ?_)
  revert h'
  intro h1 hq
  obtain ⟨rfl, he1⟩ := hq
  have hf1 : kx_Fc (fun a j => a = 84 ∧ (j = 5 ∨ j = 6 ∨ j = 8)) h h1 := by rw [he1]; exact ((kx_Fc.set ⟨rfl, by omega⟩).tr (kx_Fc.set ⟨rfl, by omega⟩)).tr (kx_Fc.set ⟨rfl, by omega⟩)
  have e6 : h1.1 84 6 = nI n := by rw [he1, setI_ne (Or.inr (by decide)), setI_ne (Or.inr (by decide)), setI_at]; exact e5
  have e5b : h1.1 84 5 = 0 := by rw [he1, setI_ne (Or.inr (by decide)), setI_at]
  have e8 : h1.1 84 8 = nI 0 := by rw [he1, setI_at]; rfl
  clear he1
  have hm : SM h1 := hm.fc hf1
  have hp1 : DKm D nw T h1 := hp.fx hf1.2 (fun a j z => by omega)
  have hz1 : ZRm D.2.2.1.1 h1 := hzr.f hf1.2 (fun a j q1 q2 q3 => by omega)
  have hw1 : WDm nw T z h1 := ⟨hwd.1, hwd.2.1.fc hf1 (by omega) (fun j => ⟨by omega, by omega⟩), hwd.2.2⟩
  have hF1 : kx_Fc FrC h h1 := hf1.mono (fun a j q => by unfold FrC FrW; omega)
  have hck1 : h1.1 84 36 = nI td := by rw [hf1.2 84 36 (by omega)]; exact hck
  refine kx_aload_n (pc := 4) (kx_dd d_Mo_paper 2 rfl) rfl rfl ?_
  refine kx_iload_n (pc := 5) (kx_dd d_Mo_paper 3 rfl) rfl rfl ?_
  refine kx_invV (pc := 6) (a := 84) (as := [_]) (kx_dd d_Mo_paper 4 rfl) ⟨lk_Mo_520, wi_Mo_isClaim, we_Mo_isClaim⟩ w_Mo_isClaim (hm.k 0 rfl) rfl rfl rfl rfl (Nat.le_of_ble_eq_true rfl) (y_isClaim (d := d + 1) hm nw T hwd.1 D ho hp1 a) (Nat.le_refl _) ⟨Nat.le_refl _, Nat.le_refl _⟩ (fun v h' hq => ?_)
  obtain ⟨rfl, he⟩ := hq
  rw [he]
  clear he
  refine kx_if_eq (pc := 9) (tgt := 32) (kx_dd d_Mo_paper 5 rfl) rfl (fun c9 => ?_) (fun c9 => ?_)
  · refine kx_bipush (pc := 32) (v := -2) (kx_dd d_Mo_paper 16 rfl) rfl ?_
    refine kx_iret (pc := 34) rfl (kx_dd d_Mo_paper 17 rfl) (Nat.le_refl _) (Nat.le_refl _) ?_
    have eR : papR D td (oneW b n) a b2 c = (-2, D) := if_neg (fun x => bP_0.mp c9 x.1)
    show CpQ _ _ _ _ _ _ _ _
    rw [eR]
    exact ⟨nw, T, WEx.rf, ⟨hw1.1, hw1.2.1, Nat.le_succ_of_le hw1.2.2⟩, e5b, rfl, ho, hp1, hz1, hF1⟩
  · have c9 := (bP_ti _).mp c9
    refine kx_iload_n (pc := 12) (kx_dd d_Mo_paper 6 rfl) rfl rfl ?_
    refine kx_iconst (pc := 13) (v := -1) (kx_dd d_Mo_paper 7 rfl) rfl ?_
    refine kx_icmp_eq (pc := 14) (tgt := 25) (kx_dd d_Mo_paper 8 rfl) rfl (fun c14 => ?_) (fun c14 => ?_)
    · refine kx_iload_n (pc := 25) (kx_dd d_Mo_paper 13 rfl) rfl rfl ?_
      refine kx_invS (pc := 26) (as := [_]) (kx_dd d_Mo_paper 14 rfl) ⟨lk_Mo_441, wt_Mo_isDay⟩ w_Mo_isDay rfl rfl (Nat.le_of_ble_eq_true rfl) (y_isDay (d := d + 1) c) (Nat.le_refl _) ⟨Nat.le_refl _, Nat.le_refl _⟩ (fun v h' hq => ?_)
      obtain ⟨rfl, he⟩ := hq
      rw [he]
      clear he
      refine kx_if_ne (pc := 29) (tgt := 35) (kx_dd d_Mo_paper 15 rfl) rfl (fun c29 => ?_) (fun c29 => ?_)
      · have c29 := (bP_ti _).mp c29
        have hcl : papP D a b2 c := ⟨c9, Or.inl c14, c29⟩
        obtain ⟨i9, hi1, hi2, hi3⟩ := isuI (by omega) hcl.2.1
        obtain ⟨a9, ha9, rfl⟩ := valP (n := D.2.2.1.1) (by omega) c9
        obtain ⟨c9, hc9, rfl⟩ := valD c29
        have ht1 : TapM b n h1 := ⟨e6, hn6, fun k hk => by rw [hf1.2 88 k (by omega)]; exact hbb k hk⟩
        refine kx_aload_n (pc := 35) (kx_dd d_Mo_paper 18 rfl) rfl rfl ?_
        refine kx_invV (pc := 36) (a := 84) (as := []) (kx_dd d_Mo_paper 19 rfl) ⟨lk_Mo_264, wi_Mo_oneWord, we_Mo_oneWord⟩ w_Mo_oneWord (hm.k 0 rfl) rfl rfl rfl rfl (Nat.le_of_ble_eq_true rfl) (y_oneWord (d := d) hm b n nw T z ht1 hby e8 hw1 hz) (Nat.le_refl _) ⟨Nat.le_refl _, Nat.le_refl _⟩ (fun v h' hq => ?_)
        revert h'
        intro h3 hq
        obtain ⟨nw3, T3, hx3, hw3, hf3, hor⟩ := hq
        have hm : SM h3 := hm.fc hf3
        have hp3 : DKm D nw3 T3 h3 := (hp1.ex hx3).fx hf3.2 (fun a j z => by unfold FrV; omega)
        have hz3 : ZRm D.2.2.1.1 h3 := hz1.f hf3.2 (fun a j q1 q2 q3 => by unfold FrV; omega)
        have hF3 : kx_Fc FrC h h3 := hF1.tr (hf3.mono (fun a j q => by unfold FrV at q; unfold FrC FrW; omega))
        have e53 : h3.1 84 5 = 0 := (hf3.2 84 5 (by unfold FrV; omega)).trans e5b
        have hck3 : h3.1 84 36 = nI td := by rw [hf3.2 84 36 (by unfold FrV; omega)]; exact hck1
        have e51 : h3.1 84 51 = nI D.2.2.1.1 := hp3.2.2.1.1
        have e52 : h3.1 84 52 = nI D.2.2.2.1 := hp3.2.2.2.1
        rcases hor with ⟨o9, rfl⟩ | ⟨j9, j1, j2, j3, rfl⟩
        · refine kx_istore_e (pc := 39) (lv' := [_, _, _, _, _]) (kx_dd d_Mo_paper 20 rfl) (Nat.le_of_ble_eq_true rfl) rfl ?_
          refine kx_iload (pc := 41) (kx_dd d_Mo_paper 21 rfl) rfl ?_
          refine kx_iconst (pc := 43) (v := -1) (kx_dd d_Mo_paper 22 rfl) rfl ?_
          refine kx_icmp_ne (pc := 44) (tgt := 49) (kx_dd d_Mo_paper 23 rfl) rfl (fun c44 => ?_) (fun c44 => ?_)
          · exact absurd rfl c44
          · refine kx_iconst (pc := 47) (v := -1) (kx_dd d_Mo_paper 24 rfl) rfl ?_
            refine kx_iret (pc := 48) rfl (kx_dd d_Mo_paper 25 rfl) (Nat.le_refl _) (Nat.le_refl _) ?_
            have eR : papR D td (oneW b n) (nI a9) b2 (nI c9) = (-1, D) := by unfold papR; rw [if_pos hcl, if_pos o9]
            show CpQ _ _ _ _ _ _ _ _
            rw [eR]
            exact ⟨nw3, T3, hx3, hw3, e53, rfl, ho, hp3, hz3, hF3⟩
        · refine kx_istore_e (pc := 39) (lv' := [_, _, _, _, _]) (kx_dd d_Mo_paper 20 rfl) (Nat.le_of_ble_eq_true rfl) rfl ?_
          refine kx_iload (pc := 41) (kx_dd d_Mo_paper 21 rfl) rfl ?_
          refine kx_iconst (pc := 43) (v := -1) (kx_dd d_Mo_paper 22 rfl) rfl ?_
          refine kx_icmp_ne (pc := 44) (tgt := 49) (kx_dd d_Mo_paper 23 rfl) rfl (fun c44 => ?_) (fun c44 => ?_)
          · refine kx_aload_n (pc := 49) (kx_dd d_Mo_paper 26 rfl) rfl rfl ?_
            refine kx_getI (pc := 50) fl_Mo_525 (hm.k 0 rfl) rfl (kx_dd d_Mo_paper 27 rfl) ?_
            refine kx_sipush (pc := 53) (v := 150) (kx_dd d_Mo_paper 28 rfl) rfl ?_
            refine kx_icmp_ne (pc := 56) (tgt := 62) (kx_dd d_Mo_paper 29 rfl) rfl (fun c56 => ?_) (fun c56 => ?_)
            · rw [e52, show (150 : Int32) = nI 150 from rfl, nI_eq (by omega) (by decide)] at c56
              refine kx_aload_n (pc := 62) (kx_dd d_Mo_paper 32 rfl) rfl rfl ?_
              refine kx_getR (pc := 63) (b := 139) fl_Mo_375 (hm.k 0 rfl) rfl (hm.r 54 rfl) (kx_dd d_Mo_paper 33 rfl) ?_
              refine kx_aload_n (pc := 66) (kx_dd d_Mo_paper 34 rfl) rfl rfl ?_
              refine kx_getI (pc := 67) fl_Mo_525 (hm.k 0 rfl) rfl (kx_dd d_Mo_paper 35 rfl) ?_
              refine kx_iload_n (pc := 70) (kx_dd d_Mo_paper 36 rfl) rfl rfl ?_
              refine kx_iastn (pc := 71) D.2.2.2.1 (hm.t 55 rfl) (by decide) e52 (by omega) (by decide) (kx_dd d_Mo_paper 37 rfl) ?_
              refine kx_aload_n (pc := 72) (kx_dd d_Mo_paper 38 rfl) rfl rfl ?_
              refine kx_getR (pc := 73) (b := 140) fl_Mo_378 (hm.k 0 rfl) rfl (hm.r 55 rfl) (kx_dd d_Mo_paper 39 rfl) ?_
              refine kx_aload_n (pc := 76) (kx_dd d_Mo_paper 40 rfl) rfl rfl ?_
              refine kx_getI (pc := 77) fl_Mo_525 (hm.k 0 rfl) rfl (kx_dd d_Mo_paper 41 rfl) ?_
              refine kx_iload (pc := 80) (kx_dd d_Mo_paper 42 rfl) rfl ?_
              refine kx_iastn (pc := 82) D.2.2.2.1 (hm.t 56 rfl) (by decide) (by simp [kx_setI, kx_up]; exact e52) (by omega) (by decide) (kx_dd d_Mo_paper 43 rfl) ?_
              refine kx_aload_n (pc := 83) (kx_dd d_Mo_paper 44 rfl) rfl rfl ?_
              refine kx_getR (pc := 84) (b := 141) fl_Mo_381 (hm.k 0 rfl) rfl (hm.r 56 rfl) (kx_dd d_Mo_paper 45 rfl) ?_
              refine kx_aload_n (pc := 87) (kx_dd d_Mo_paper 46 rfl) rfl rfl ?_
              refine kx_getI (pc := 88) fl_Mo_525 (hm.k 0 rfl) rfl (kx_dd d_Mo_paper 47 rfl) ?_
              refine kx_iload_n (pc := 91) (kx_dd d_Mo_paper 48 rfl) rfl rfl ?_
              refine kx_iastn (pc := 92) D.2.2.2.1 (hm.t 57 rfl) (by decide) (by simp [kx_setI, kx_up]; exact e52) (by omega) (by decide) (kx_dd d_Mo_paper 49 rfl) ?_
              refine kx_aload_n (pc := 93) (kx_dd d_Mo_paper 50 rfl) rfl rfl ?_
              refine kx_getR (pc := 94) (b := 142) fl_Mo_384 (hm.k 0 rfl) rfl (hm.r 57 rfl) (kx_dd d_Mo_paper 51 rfl) ?_
              refine kx_aload_n (pc := 97) (kx_dd d_Mo_paper 52 rfl) rfl rfl ?_
              refine kx_getI (pc := 98) fl_Mo_525 (hm.k 0 rfl) rfl (kx_dd d_Mo_paper 53 rfl) ?_
              refine kx_iload_n (pc := 101) (kx_dd d_Mo_paper 54 rfl) rfl rfl ?_
              refine kx_iastn (pc := 102) D.2.2.2.1 (hm.t 58 rfl) (by decide) (by simp [kx_setI, kx_up]; exact e52) (by omega) (by decide) (kx_dd d_Mo_paper 55 rfl) ?_
              refine kx_aload_n (pc := 103) (kx_dd d_Mo_paper 56 rfl) rfl rfl ?_
              refine kx_getR (pc := 104) (b := 143) fl_Mo_387 (hm.k 0 rfl) rfl (hm.r 58 rfl) (kx_dd d_Mo_paper 57 rfl) ?_
              refine kx_aload_n (pc := 107) (kx_dd d_Mo_paper 58 rfl) rfl rfl ?_
              refine kx_getI (pc := 108) fl_Mo_525 (hm.k 0 rfl) rfl (kx_dd d_Mo_paper 59 rfl) ?_
              refine kx_aload_n (pc := 111) (kx_dd d_Mo_paper 60 rfl) rfl rfl ?_
              refine kx_getI (pc := 112) fl_Mo_426 (hm.k 0 rfl) rfl (kx_dd d_Mo_paper 61 rfl) ?_
              rw [show (kx_setI (kx_setI (kx_setI (kx_setI h3 139 D.2.2.2.1 (nI a9)) 140 D.2.2.2.1 (nI j9)) 141 D.2.2.2.1 b2) 142 D.2.2.2.1 (nI c9)).1 84 36 = nI td from by simp [kx_setI, kx_up]; exact hck3]
              refine kx_iastn (pc := 115) D.2.2.2.1 (hm.t 59 rfl) (by decide) (by simp [kx_setI, kx_up]; exact e52) (by omega) (by decide) (kx_dd d_Mo_paper 62 rfl) ?_
              refine kx_aload_n (pc := 116) (kx_dd d_Mo_paper 63 rfl) rfl rfl ?_
              refine kx_dup (pc := 117) (kx_dd d_Mo_paper 64 rfl) rfl ?_
              refine kx_getI (pc := 118) fl_Mo_525 (hm.k 0 rfl) rfl (kx_dd d_Mo_paper 65 rfl) ?_
              refine kx_iconst (pc := 121) (v := 1) (kx_dd d_Mo_paper 66 rfl) rfl ?_
              refine kx_iadd (pc := 122) (kx_dd d_Mo_paper 67 rfl) ?_
              rw [show (kx_setI (kx_setI (kx_setI (kx_setI (kx_setI h3 139 D.2.2.2.1 (nI a9)) 140 D.2.2.2.1 (nI j9)) 141 D.2.2.2.1 (b2)) 142 D.2.2.2.1 (nI c9)) 143 D.2.2.2.1 (nI td)).1 84 52 = nI D.2.2.2.1 from by simp [kx_setI, kx_up]; exact e52, nI_1]
              refine kx_putI (pc := 123) fl_Mo_525 (hm.k 0 rfl) (by decide) rfl rfl (kx_dd d_Mo_paper 68 rfl) ?_
              refine kx_aload_n (pc := 126) (kx_dd d_Mo_paper 69 rfl) rfl rfl ?_
              refine kx_getI (pc := 127) fl_Mo_525 (hm.k 0 rfl) rfl (kx_dd d_Mo_paper 70 rfl) ?_
              rw [setI_at]
              refine kx_iconst (pc := 130) (v := 1) (kx_dd d_Mo_paper 71 rfl) rfl ?_
              refine kx_isub (pc := 131) (kx_dd d_Mo_paper 72 rfl) ?_
              rw [show (1 : Int32) = nI 1 from rfl, pk_sub (by omega), Nat.add_sub_cancel]
              refine kx_iret (pc := 132) rfl (kx_dd d_Mo_paper 73 rfl) (Nat.le_refl _) (Nat.le_refl _) ?_
              have eR : papR D td (oneW b n) (nI a9) b2 (nI c9) = (nI D.2.2.2.1, addP D a9 (oneW b n) i9 c9 td) := by unfold papR; rw [if_pos hcl, if_neg (by omega), if_neg c56, nI_clamp (by omega), nI_clamp (by omega), hi3]
              show CpQ _ _ _ _ _ _ _ _
              rw [eR]
              have hf9 : kx_Fc (fun x j => (x = 84 ∧ j = 52) ∨ ((139 ≤ x ∧ x ≤ 143) ∧ j = D.2.2.2.1)) h3 (kx_setI (kx_setI (kx_setI (kx_setI (kx_setI (kx_setI h3 139 D.2.2.2.1 (nI a9)) 140 D.2.2.2.1 (nI j9)) 141 D.2.2.2.1 (b2)) 142 D.2.2.2.1 (nI c9)) 143 D.2.2.2.1 (nI td)) 84 52 (nI (D.2.2.2.1 + 1))) := (((((kx_Fc.set (Or.inr ⟨by omega, rfl⟩)).tr (kx_Fc.set (Or.inr ⟨by omega, rfl⟩))).tr (kx_Fc.set (Or.inr ⟨by omega, rfl⟩))).tr (kx_Fc.set (Or.inr ⟨by omega, rfl⟩))).tr (kx_Fc.set (Or.inr ⟨by omega, rfl⟩))).tr (kx_Fc.set (Or.inl ⟨rfl, rfl⟩))
              have hp9 := hp3.addP (w := oneW b n) (c := a9) (i := i9) (y := c9) (t := td) hf9.2 setI_at (by simp [kx_setI, kx_up]) ⟨j9, j1, j2, by simp [kx_setI, kx_up]⟩ (by simp [kx_setI, kx_up]; exact hi2) (by simp [kx_setI, kx_up]) (by simp [kx_setI, kx_up])
              have hwl := hw3.1.2.2 j9 j1
              rw [j2] at hwl
              exact ⟨nw3, T3, hx3, ⟨hw3.1, hw3.2.1.fc hf9 (by omega) (fun j => ⟨by omega, by omega⟩), hw3.2.2⟩, (hf9.2 84 5 (by omega)).trans e53, rfl, addP_ok ho (by omega) ha9 hwl.1 hwl.2 hi1 hc9 htd, hp9, hz3.f hf9.2 (fun a j q1 q2 q3 => by omega), hF3.tr (hf9.mono (fun a j q => by unfold FrC; omega))⟩
            · refine kx_bipush (pc := 59) (v := -3) (kx_dd d_Mo_paper 30 rfl) rfl ?_
              refine kx_iret (pc := 61) rfl (kx_dd d_Mo_paper 31 rfl) (Nat.le_refl _) (Nat.le_refl _) ?_
              rw [e52, show (150 : Int32) = nI 150 from rfl, nI_eq (by omega) (by decide)] at c56
              have eR : papR D td (oneW b n) (nI a9) b2 (nI c9) = (-3, D) := by unfold papR; rw [if_pos hcl, if_neg (by omega), if_pos c56]
              show CpQ _ _ _ _ _ _ _ _
              rw [eR]
              exact ⟨nw3, T3, hx3, hw3, e53, rfl, ho, hp3, hz3, hF3⟩
          · exact absurd c44 (nI_m2 (by have := hw3.1.1; omega))
      · refine kx_bipush (pc := 32) (v := -2) (kx_dd d_Mo_paper 16 rfl) rfl ?_
        refine kx_iret (pc := 34) rfl (kx_dd d_Mo_paper 17 rfl) (Nat.le_refl _) (Nat.le_refl _) ?_
        have eR : papR D td (oneW b n) a b2 c = (-2, D) := if_neg (fun x => bP_0.mp c29 x.2.2)
        show CpQ _ _ _ _ _ _ _ _
        rw [eR]
        exact ⟨nw, T, WEx.rf, ⟨hw1.1, hw1.2.1, Nat.le_succ_of_le hw1.2.2⟩, e5b, rfl, ho, hp1, hz1, hF1⟩
    · refine kx_aload_n (pc := 17) (kx_dd d_Mo_paper 9 rfl) rfl rfl ?_
      refine kx_iload_n (pc := 18) (kx_dd d_Mo_paper 10 rfl) rfl rfl ?_
      refine kx_invV (pc := 19) (a := 84) (as := [_]) (kx_dd d_Mo_paper 11 rfl) ⟨lk_Mo_435, wi_Mo_isPerson, we_Mo_isPerson⟩ w_Mo_isPerson (hm.k 0 rfl) rfl rfl rfl rfl (Nat.le_of_ble_eq_true rfl) (y_isPerson (d := d + 1) hm D.1 ho.1 hp1.1 b2) (Nat.le_refl _) ⟨Nat.le_refl _, Nat.le_refl _⟩ (fun v h' hq => ?_)
      obtain ⟨rfl, he⟩ := hq
      rw [he]
      clear he
      refine kx_if_eq (pc := 22) (tgt := 32) (kx_dd d_Mo_paper 12 rfl) rfl (fun c22 => ?_) (fun c22 => ?_)
      · refine kx_bipush (pc := 32) (v := -2) (kx_dd d_Mo_paper 16 rfl) rfl ?_
        refine kx_iret (pc := 34) rfl (kx_dd d_Mo_paper 17 rfl) (Nat.le_refl _) (Nat.le_refl _) ?_
        have eR : papR D td (oneW b n) a b2 c = (-2, D) := if_neg (fun x => x.2.1.elim c14 (bP_0.mp c22))
        show CpQ _ _ _ _ _ _ _ _
        rw [eR]
        exact ⟨nw, T, WEx.rf, ⟨hw1.1, hw1.2.1, Nat.le_succ_of_le hw1.2.2⟩, e5b, rfl, ho, hp1, hz1, hF1⟩
      · refine kx_iload_n (pc := 25) (kx_dd d_Mo_paper 13 rfl) rfl rfl ?_
        refine kx_invS (pc := 26) (as := [_]) (kx_dd d_Mo_paper 14 rfl) ⟨lk_Mo_441, wt_Mo_isDay⟩ w_Mo_isDay rfl rfl (Nat.le_of_ble_eq_true rfl) (y_isDay (d := d + 1) c) (Nat.le_refl _) ⟨Nat.le_refl _, Nat.le_refl _⟩ (fun v h' hq => ?_)
        obtain ⟨rfl, he⟩ := hq
        rw [he]
        clear he
        refine kx_if_ne (pc := 29) (tgt := 35) (kx_dd d_Mo_paper 15 rfl) rfl (fun c29 => ?_) (fun c29 => ?_)
        · have c29 := (bP_ti _).mp c29
          have hcl : papP D a b2 c := ⟨c9, Or.inr ((bP_ti _).mp c22), c29⟩
          obtain ⟨i9, hi1, hi2, hi3⟩ := isuI (by omega) hcl.2.1
          obtain ⟨a9, ha9, rfl⟩ := valP (n := D.2.2.1.1) (by omega) c9
          obtain ⟨c9, hc9, rfl⟩ := valD c29
          have ht1 : TapM b n h1 := ⟨e6, hn6, fun k hk => by rw [hf1.2 88 k (by omega)]; exact hbb k hk⟩
          refine kx_aload_n (pc := 35) (kx_dd d_Mo_paper 18 rfl) rfl rfl ?_
          refine kx_invV (pc := 36) (a := 84) (as := []) (kx_dd d_Mo_paper 19 rfl) ⟨lk_Mo_264, wi_Mo_oneWord, we_Mo_oneWord⟩ w_Mo_oneWord (hm.k 0 rfl) rfl rfl rfl rfl (Nat.le_of_ble_eq_true rfl) (y_oneWord (d := d) hm b n nw T z ht1 hby e8 hw1 hz) (Nat.le_refl _) ⟨Nat.le_refl _, Nat.le_refl _⟩ (fun v h' hq => ?_)
          revert h'
          intro h3 hq
          obtain ⟨nw3, T3, hx3, hw3, hf3, hor⟩ := hq
          have hm : SM h3 := hm.fc hf3
          have hp3 : DKm D nw3 T3 h3 := (hp1.ex hx3).fx hf3.2 (fun a j z => by unfold FrV; omega)
          have hz3 : ZRm D.2.2.1.1 h3 := hz1.f hf3.2 (fun a j q1 q2 q3 => by unfold FrV; omega)
          have hF3 : kx_Fc FrC h h3 := hF1.tr (hf3.mono (fun a j q => by unfold FrV at q; unfold FrC FrW; omega))
          have e53 : h3.1 84 5 = 0 := (hf3.2 84 5 (by unfold FrV; omega)).trans e5b
          have hck3 : h3.1 84 36 = nI td := by rw [hf3.2 84 36 (by unfold FrV; omega)]; exact hck1
          have e51 : h3.1 84 51 = nI D.2.2.1.1 := hp3.2.2.1.1
          have e52 : h3.1 84 52 = nI D.2.2.2.1 := hp3.2.2.2.1
          rcases hor with ⟨o9, rfl⟩ | ⟨j9, j1, j2, j3, rfl⟩
          · refine kx_istore_e (pc := 39) (lv' := [_, _, _, _, _]) (kx_dd d_Mo_paper 20 rfl) (Nat.le_of_ble_eq_true rfl) rfl ?_
            refine kx_iload (pc := 41) (kx_dd d_Mo_paper 21 rfl) rfl ?_
            refine kx_iconst (pc := 43) (v := -1) (kx_dd d_Mo_paper 22 rfl) rfl ?_
            refine kx_icmp_ne (pc := 44) (tgt := 49) (kx_dd d_Mo_paper 23 rfl) rfl (fun c44 => ?_) (fun c44 => ?_)
            · exact absurd rfl c44
            · refine kx_iconst (pc := 47) (v := -1) (kx_dd d_Mo_paper 24 rfl) rfl ?_
              refine kx_iret (pc := 48) rfl (kx_dd d_Mo_paper 25 rfl) (Nat.le_refl _) (Nat.le_refl _) ?_
              have eR : papR D td (oneW b n) (nI a9) b2 (nI c9) = (-1, D) := by unfold papR; rw [if_pos hcl, if_pos o9]
              show CpQ _ _ _ _ _ _ _ _
              rw [eR]
              exact ⟨nw3, T3, hx3, hw3, e53, rfl, ho, hp3, hz3, hF3⟩
          · refine kx_istore_e (pc := 39) (lv' := [_, _, _, _, _]) (kx_dd d_Mo_paper 20 rfl) (Nat.le_of_ble_eq_true rfl) rfl ?_
            refine kx_iload (pc := 41) (kx_dd d_Mo_paper 21 rfl) rfl ?_
            refine kx_iconst (pc := 43) (v := -1) (kx_dd d_Mo_paper 22 rfl) rfl ?_
            refine kx_icmp_ne (pc := 44) (tgt := 49) (kx_dd d_Mo_paper 23 rfl) rfl (fun c44 => ?_) (fun c44 => ?_)
            · refine kx_aload_n (pc := 49) (kx_dd d_Mo_paper 26 rfl) rfl rfl ?_
              refine kx_getI (pc := 50) fl_Mo_525 (hm.k 0 rfl) rfl (kx_dd d_Mo_paper 27 rfl) ?_
              refine kx_sipush (pc := 53) (v := 150) (kx_dd d_Mo_paper 28 rfl) rfl ?_
              refine kx_icmp_ne (pc := 56) (tgt := 62) (kx_dd d_Mo_paper 29 rfl) rfl (fun c56 => ?_) (fun c56 => ?_)
              · rw [e52, show (150 : Int32) = nI 150 from rfl, nI_eq (by omega) (by decide)] at c56
                refine kx_aload_n (pc := 62) (kx_dd d_Mo_paper 32 rfl) rfl rfl ?_
                refine kx_getR (pc := 63) (b := 139) fl_Mo_375 (hm.k 0 rfl) rfl (hm.r 54 rfl) (kx_dd d_Mo_paper 33 rfl) ?_
                refine kx_aload_n (pc := 66) (kx_dd d_Mo_paper 34 rfl) rfl rfl ?_
                refine kx_getI (pc := 67) fl_Mo_525 (hm.k 0 rfl) rfl (kx_dd d_Mo_paper 35 rfl) ?_
                refine kx_iload_n (pc := 70) (kx_dd d_Mo_paper 36 rfl) rfl rfl ?_
                refine kx_iastn (pc := 71) D.2.2.2.1 (hm.t 55 rfl) (by decide) e52 (by omega) (by decide) (kx_dd d_Mo_paper 37 rfl) ?_
                refine kx_aload_n (pc := 72) (kx_dd d_Mo_paper 38 rfl) rfl rfl ?_
                refine kx_getR (pc := 73) (b := 140) fl_Mo_378 (hm.k 0 rfl) rfl (hm.r 55 rfl) (kx_dd d_Mo_paper 39 rfl) ?_
                refine kx_aload_n (pc := 76) (kx_dd d_Mo_paper 40 rfl) rfl rfl ?_
                refine kx_getI (pc := 77) fl_Mo_525 (hm.k 0 rfl) rfl (kx_dd d_Mo_paper 41 rfl) ?_
                refine kx_iload (pc := 80) (kx_dd d_Mo_paper 42 rfl) rfl ?_
                refine kx_iastn (pc := 82) D.2.2.2.1 (hm.t 56 rfl) (by decide) (by simp [kx_setI, kx_up]; exact e52) (by omega) (by decide) (kx_dd d_Mo_paper 43 rfl) ?_
                refine kx_aload_n (pc := 83) (kx_dd d_Mo_paper 44 rfl) rfl rfl ?_
                refine kx_getR (pc := 84) (b := 141) fl_Mo_381 (hm.k 0 rfl) rfl (hm.r 56 rfl) (kx_dd d_Mo_paper 45 rfl) ?_
                refine kx_aload_n (pc := 87) (kx_dd d_Mo_paper 46 rfl) rfl rfl ?_
                refine kx_getI (pc := 88) fl_Mo_525 (hm.k 0 rfl) rfl (kx_dd d_Mo_paper 47 rfl) ?_
                refine kx_iload_n (pc := 91) (kx_dd d_Mo_paper 48 rfl) rfl rfl ?_
                refine kx_iastn (pc := 92) D.2.2.2.1 (hm.t 57 rfl) (by decide) (by simp [kx_setI, kx_up]; exact e52) (by omega) (by decide) (kx_dd d_Mo_paper 49 rfl) ?_
                refine kx_aload_n (pc := 93) (kx_dd d_Mo_paper 50 rfl) rfl rfl ?_
                refine kx_getR (pc := 94) (b := 142) fl_Mo_384 (hm.k 0 rfl) rfl (hm.r 57 rfl) (kx_dd d_Mo_paper 51 rfl) ?_
                refine kx_aload_n (pc := 97) (kx_dd d_Mo_paper 52 rfl) rfl rfl ?_
                refine kx_getI (pc := 98) fl_Mo_525 (hm.k 0 rfl) rfl (kx_dd d_Mo_paper 53 rfl) ?_
                refine kx_iload_n (pc := 101) (kx_dd d_Mo_paper 54 rfl) rfl rfl ?_
                refine kx_iastn (pc := 102) D.2.2.2.1 (hm.t 58 rfl) (by decide) (by simp [kx_setI, kx_up]; exact e52) (by omega) (by decide) (kx_dd d_Mo_paper 55 rfl) ?_
                refine kx_aload_n (pc := 103) (kx_dd d_Mo_paper 56 rfl) rfl rfl ?_
                refine kx_getR (pc := 104) (b := 143) fl_Mo_387 (hm.k 0 rfl) rfl (hm.r 58 rfl) (kx_dd d_Mo_paper 57 rfl) ?_
                refine kx_aload_n (pc := 107) (kx_dd d_Mo_paper 58 rfl) rfl rfl ?_
                refine kx_getI (pc := 108) fl_Mo_525 (hm.k 0 rfl) rfl (kx_dd d_Mo_paper 59 rfl) ?_
                refine kx_aload_n (pc := 111) (kx_dd d_Mo_paper 60 rfl) rfl rfl ?_
                refine kx_getI (pc := 112) fl_Mo_426 (hm.k 0 rfl) rfl (kx_dd d_Mo_paper 61 rfl) ?_
                rw [show (kx_setI (kx_setI (kx_setI (kx_setI h3 139 D.2.2.2.1 (nI a9)) 140 D.2.2.2.1 (nI j9)) 141 D.2.2.2.1 b2) 142 D.2.2.2.1 (nI c9)).1 84 36 = nI td from by simp [kx_setI, kx_up]; exact hck3]
                refine kx_iastn (pc := 115) D.2.2.2.1 (hm.t 59 rfl) (by decide) (by simp [kx_setI, kx_up]; exact e52) (by omega) (by decide) (kx_dd d_Mo_paper 62 rfl) ?_
                refine kx_aload_n (pc := 116) (kx_dd d_Mo_paper 63 rfl) rfl rfl ?_
                refine kx_dup (pc := 117) (kx_dd d_Mo_paper 64 rfl) rfl ?_
                refine kx_getI (pc := 118) fl_Mo_525 (hm.k 0 rfl) rfl (kx_dd d_Mo_paper 65 rfl) ?_
                refine kx_iconst (pc := 121) (v := 1) (kx_dd d_Mo_paper 66 rfl) rfl ?_
                refine kx_iadd (pc := 122) (kx_dd d_Mo_paper 67 rfl) ?_
                rw [show (kx_setI (kx_setI (kx_setI (kx_setI (kx_setI h3 139 D.2.2.2.1 (nI a9)) 140 D.2.2.2.1 (nI j9)) 141 D.2.2.2.1 (b2)) 142 D.2.2.2.1 (nI c9)) 143 D.2.2.2.1 (nI td)).1 84 52 = nI D.2.2.2.1 from by simp [kx_setI, kx_up]; exact e52, nI_1]
                refine kx_putI (pc := 123) fl_Mo_525 (hm.k 0 rfl) (by decide) rfl rfl (kx_dd d_Mo_paper 68 rfl) ?_
                refine kx_aload_n (pc := 126) (kx_dd d_Mo_paper 69 rfl) rfl rfl ?_
                refine kx_getI (pc := 127) fl_Mo_525 (hm.k 0 rfl) rfl (kx_dd d_Mo_paper 70 rfl) ?_
                rw [setI_at]
                refine kx_iconst (pc := 130) (v := 1) (kx_dd d_Mo_paper 71 rfl) rfl ?_
                refine kx_isub (pc := 131) (kx_dd d_Mo_paper 72 rfl) ?_
                rw [show (1 : Int32) = nI 1 from rfl, pk_sub (by omega), Nat.add_sub_cancel]
                refine kx_iret (pc := 132) rfl (kx_dd d_Mo_paper 73 rfl) (Nat.le_refl _) (Nat.le_refl _) ?_
                have eR : papR D td (oneW b n) (nI a9) b2 (nI c9) = (nI D.2.2.2.1, addP D a9 (oneW b n) i9 c9 td) := by unfold papR; rw [if_pos hcl, if_neg (by omega), if_neg c56, nI_clamp (by omega), nI_clamp (by omega), hi3]
                show CpQ _ _ _ _ _ _ _ _
                rw [eR]
                have hf9 : kx_Fc (fun x j => (x = 84 ∧ j = 52) ∨ ((139 ≤ x ∧ x ≤ 143) ∧ j = D.2.2.2.1)) h3 (kx_setI (kx_setI (kx_setI (kx_setI (kx_setI (kx_setI h3 139 D.2.2.2.1 (nI a9)) 140 D.2.2.2.1 (nI j9)) 141 D.2.2.2.1 (b2)) 142 D.2.2.2.1 (nI c9)) 143 D.2.2.2.1 (nI td)) 84 52 (nI (D.2.2.2.1 + 1))) := (((((kx_Fc.set (Or.inr ⟨by omega, rfl⟩)).tr (kx_Fc.set (Or.inr ⟨by omega, rfl⟩))).tr (kx_Fc.set (Or.inr ⟨by omega, rfl⟩))).tr (kx_Fc.set (Or.inr ⟨by omega, rfl⟩))).tr (kx_Fc.set (Or.inr ⟨by omega, rfl⟩))).tr (kx_Fc.set (Or.inl ⟨rfl, rfl⟩))
                have hp9 := hp3.addP (w := oneW b n) (c := a9) (i := i9) (y := c9) (t := td) hf9.2 setI_at (by simp [kx_setI, kx_up]) ⟨j9, j1, j2, by simp [kx_setI, kx_up]⟩ (by simp [kx_setI, kx_up]; exact hi2) (by simp [kx_setI, kx_up]) (by simp [kx_setI, kx_up])
                have hwl := hw3.1.2.2 j9 j1
                rw [j2] at hwl
                exact ⟨nw3, T3, hx3, ⟨hw3.1, hw3.2.1.fc hf9 (by omega) (fun j => ⟨by omega, by omega⟩), hw3.2.2⟩, (hf9.2 84 5 (by omega)).trans e53, rfl, addP_ok ho (by omega) ha9 hwl.1 hwl.2 hi1 hc9 htd, hp9, hz3.f hf9.2 (fun a j q1 q2 q3 => by omega), hF3.tr (hf9.mono (fun a j q => by unfold FrC; omega))⟩
              · refine kx_bipush (pc := 59) (v := -3) (kx_dd d_Mo_paper 30 rfl) rfl ?_
                refine kx_iret (pc := 61) rfl (kx_dd d_Mo_paper 31 rfl) (Nat.le_refl _) (Nat.le_refl _) ?_
                rw [e52, show (150 : Int32) = nI 150 from rfl, nI_eq (by omega) (by decide)] at c56
                have eR : papR D td (oneW b n) (nI a9) b2 (nI c9) = (-3, D) := by unfold papR; rw [if_pos hcl, if_neg (by omega), if_pos c56]
                show CpQ _ _ _ _ _ _ _ _
                rw [eR]
                exact ⟨nw3, T3, hx3, hw3, e53, rfl, ho, hp3, hz3, hF3⟩
            · exact absurd c44 (nI_m2 (by have := hw3.1.1; omega))
        · refine kx_bipush (pc := 32) (v := -2) (kx_dd d_Mo_paper 16 rfl) rfl ?_
          refine kx_iret (pc := 34) rfl (kx_dd d_Mo_paper 17 rfl) (Nat.le_refl _) (Nat.le_refl _) ?_
          have eR : papR D td (oneW b n) a b2 c = (-2, D) := if_neg (fun x => bP_0.mp c29 x.2.2)
          show CpQ _ _ _ _ _ _ _ _
          rw [eR]
          exact ⟨nw, T, WEx.rf, ⟨hw1.1, hw1.2.1, Nat.le_succ_of_le hw1.2.2⟩, e5b, rfl, ho, hp1, hz1, hF1⟩
