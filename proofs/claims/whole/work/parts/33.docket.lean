/-! claims and papers; lists; the class: Docket, what fails -/
section KXL
variable {f : kx_F} {cells slots pc : Nat} {lv : List (Option Value)} {st : List Value} {h : kx_Mem}
theorem kx_acmp_ne {x y tgt : Nat} {off : Int} (hx : x < 1000000) (hy : y < 1000000) (hd : decode f.2.2.1.2.1 pc = .ok (.if_acmp .ne off, 3)) (ht : (pc : Int) + off = (tgt : Int)) (kt : ¬ x = y → kx_X f cells slots tgt lv st h) (kf : x = y → kx_X f cells slots (pc + 3) lv st h) : kx_X f cells slots pc lv (.ref y :: .ref x :: st) h := by
  intro p e s m args below meth c C H locs ls hR hL hl
  have e0 : some (kx_ad f.2.1 x) = some (kx_ad f.2.1 y) ↔ x = y := by
    unfold kx_ad
    rw [if_pos hx, if_pos hy]
    simp
  exact lv_acmp_ne (rx := some (kx_ad f.2.1 x)) (ry := some (kx_ad f.2.1 y)) C.1 C.2.1 hd ht (fun q => kt (fun z => q (e0.mpr z)) p e s m args below meth c C H locs ls hR hL hl) (fun q => kf (e0.mp q) p e s m args below meth c C H locs ls hR hL hl)
end KXL
/-- claims: how many, of each its fields by the class's places, its word -/
abbrev CSt : Type := Nat × (Nat → Nat → Int32) × (Nat → Nat)
def cN (s : CSt) (c j : Nat) : Nat := (s.2.1 c j).toNatClampNeg
def CSok (P : Nat) (ts : TS) (s : CSt) : Prop := s.1 ≤ 60 ∧ ∀ c, c < s.1 → (∀ j, j < 17 → j ≠ 6 → j ≠ 11 → j ≠ 12 → s.2.1 c j = nI (cN s c j)) ∧ cN s c 0 < P ∧ cN s c 1 ≤ 3 ∧ cN s c 2 < ts.1 ∧ cN s c 3 ≤ 3 ∧ cN s c 4 ≤ 999999 ∧ cN s c 5 ≤ 1999 ∧ ts.2.1 (cN s c 2) ≤ cN s c 5 ∧ cN s c 7 ≤ 1023 ∧ cN s c 8 ≤ 3 ∧ cN s c 9 ≤ 999999 ∧ cN s c 10 ≤ 6600000 ∧ cN s c 13 ≤ 999999 ∧ cN s c 14 ≤ 999999 ∧ cN s c 15 ≤ 63 ∧ cN s c 16 ≤ 999999 ∧ 0 < s.2.2 c ∧ s.2.2 c < 2 ^ 60
/-- a list of the class: how many, its row, the row's length, who is in it -/
def LSc (o n ea cap : Nat) (ad : Nat → Nat) (h : kx_Mem) : Prop := h.1 o 2 = nI n ∧ h.2.2.1 o 1 = some ea ∧ (h.2.2.2.1 ea = (54, cap) ∨ (n = 0 ∧ cap = 0 ∧ ea = 1000201)) ∧ n ≤ cap ∧ cap ≤ 1000 ∧ ∀ c, c < n → h.2.2.1 ea c = some (ad c)
def CSc (s : CSt) (ca : Nat → Nat) (h : kx_Mem) : Prop := (∀ c c', c < s.1 → c' < s.1 → ca c = ca c' → c = c') ∧ ∀ c, c < s.1 → 154 ≤ ca c ∧ ca c < 1000000 ∧ h.2.2.2.1 (ca c) = (2, 0) ∧ (∀ j, j < 17 → j ≠ 6 → h.1 (ca c) j = s.2.1 c j) ∧ h.2.1 (ca c) 6 = lN (s.2.2 c)
/-- papers: how many, of each its claim, word, issuer and 1 (0 for none), day, known -/
abbrev FSt : Type := Nat × (Nat → Nat) × (Nat → Nat) × (Nat → Nat) × (Nat → Nat) × (Nat → Nat)
def FSok (P n : Nat) (s : FSt) : Prop := s.1 ≤ 150 ∧ ∀ k, k < s.1 → s.2.1 k < n ∧ 0 < s.2.2.1 k ∧ s.2.2.1 k < 2 ^ 60 ∧ s.2.2.2.1 k ≤ P ∧ s.2.2.2.2.1 k ≤ 1999 ∧ s.2.2.2.2.2 k ≤ 1999
def FSc (s : FSt) (ca pa : Nat → Nat) (h : kx_Mem) : Prop := ∀ k, k < s.1 → 154 ≤ pa k ∧ pa k < 1000000 ∧ h.2.2.2.1 (pa k) = (5, 0) ∧ h.2.2.1 (pa k) 0 = some (ca (s.2.1 k)) ∧ h.2.1 (pa k) 1 = lN (s.2.2.1 k) ∧ h.1 (pa k) 2 = nI (s.2.2.2.1 k) - 1 ∧ h.1 (pa k) 3 = nI (s.2.2.2.2.1 k) ∧ h.1 (pa k) 4 = nI (s.2.2.2.2.2 k)
/-- people, things, claims, papers -/
abbrev DK : Type := PS × TS × CSt × FSt
/-- the class's addresses: claims, papers, the lists' rows and lengths -/
abbrev DA : Type := (Nat → Nat) × (Nat → Nat) × Nat × Nat × Nat × Nat
def DKok (D : DK) : Prop := PSok D.1 ∧ TSok D.2.1 ∧ CSok D.1.1 D.2.1 D.2.2.1 ∧ FSok D.1.1 D.2.2.1.1 D.2.2.2
def DKc (D : DK) (A : DA) (h : kx_Mem) : Prop := PSc D.1 h ∧ TSc D.2.1 h ∧ LSc 40 D.2.2.1.1 A.2.2.1 A.2.2.2.1 A.1 h ∧ LSc 41 D.2.2.2.1 A.2.2.2.2.1 A.2.2.2.2.2 A.2.1 h ∧ CSc D.2.2.1 A.1 h ∧ FSc D.2.2.2 A.1 A.2.1 h
theorem kx_mono_sp {l : Launch} {g : kx_G} {μ : kx_M} {as : List Value} {d mc ms : Nat} {Q Q' : Option Value → kx_Mem → Prop} {h : kx_Mem} (k : kx_Sp l g μ as h d mc ms Q) (e : Q = Q') : kx_Sp l g μ as h d mc ms Q' := e ▸ k
theorem x_AL_size {l : Launch} {g : kx_G} {d : Nat} {h : kx_Mem} (o n ea cap : Nat) (ad : Nat → Nat) (hko : h.2.2.2.1 o = (1, 0)) (hl : LSc o n ea cap ad h) : kx_Sp l g m_AL_size [.ref o] h (d) 0 0 (fun v h' => v = some (.int (nI n)) ∧ h' = h) := by
  refine kx_enter_e (lv := [_]) (by decide +kernel) (Nat.le_of_ble_eq_true rfl) rfl ?_
  refine kx_aload_n (pc := 0) (kx_dd d_AL_size 0 rfl) rfl rfl ?_
  refine kx_getI (pc := 1) fl_AL_48 (by rw [hko]) rfl (kx_dd d_AL_size 1 rfl) ?_
  refine kx_iret (pc := 4) rfl (kx_dd d_AL_size 2 rfl) (Nat.le_refl _) (Nat.le_refl _) ?_
  exact ⟨by rw [hl.1], rfl⟩
theorem x_Pr_checkIndex {l : Launch} {g : kx_G} {d : Nat} {h : kx_Mem} (i n : Nat) (hi : i < n) (hn : n < 2 ^ 31) : kx_Sp l g m_Pr_checkIndex [.int (nI i), .int (nI n), .null] h (d) 0 0 (fun v h' => v = some (.int (nI i)) ∧ h' = h) := by
  refine kx_enter_e (lv := [_, _, _]) (by decide +kernel) (Nat.le_of_ble_eq_true rfl) rfl ?_
  refine kx_iload_n (pc := 0) (kx_dd d_Pr_checkIndex 0 rfl) rfl rfl ?_
  refine kx_if_lt (pc := 1) (tgt := 9) (kx_dd d_Pr_checkIndex 1 rfl) rfl (fun c1 => ?_) (fun c1 => ?_)
  · exact absurd c1 (nI_pos (by omega))
  · refine kx_iload_n (pc := 4) (kx_dd d_Pr_checkIndex 2 rfl) rfl rfl ?_
    refine kx_iload_n (pc := 5) (kx_dd d_Pr_checkIndex 3 rfl) rfl rfl ?_
    refine kx_icmp_lt (pc := 6) (tgt := 16) (kx_dd d_Pr_checkIndex 4 rfl) rfl (fun c6 => ?_) (fun c6 => ?_)
    · refine kx_iload_n (pc := 16) (kx_dd d_Pr_checkIndex 10 rfl) rfl rfl ?_
      refine kx_iret (pc := 17) rfl (kx_dd d_Pr_checkIndex 11 rfl) (Nat.le_refl _) (Nat.le_refl _) ?_
      exact ⟨rfl, rfl⟩
    · exact absurd (nI_lt hi hn) c6
theorem x_Ob_checkIndex {l : Launch} {g : kx_G} {d : Nat} {h : kx_Mem} (i n : Nat) (hi : i < n) (hn : n < 2 ^ 31) : kx_Sp l g m_Ob_checkIndex [.int (nI i), .int (nI n)] h (d + 1) 0 0 (fun v h' => v = some (.int (nI i)) ∧ h' = h) := by
  refine kx_enter_e (lv := [_, _]) (by decide +kernel) (Nat.le_of_ble_eq_true rfl) rfl ?_
  refine kx_iload_n (pc := 0) (kx_dd d_Ob_checkIndex 0 rfl) rfl rfl ?_
  refine kx_iload_n (pc := 1) (kx_dd d_Ob_checkIndex 1 rfl) rfl rfl ?_
  refine kx_null (pc := 2) (kx_dd d_Ob_checkIndex 2 rfl) ?_
  refine kx_invS (pc := 3) (as := [_, _, _]) (kx_dd d_Ob_checkIndex 3 rfl) ⟨lk_Ob_105, wt_Pr_checkIndex⟩ w_Pr_checkIndex rfl rfl (Nat.le_of_ble_eq_true rfl) (x_Pr_checkIndex (d := d) i n hi hn) (Nat.le_refl _) ⟨Nat.le_refl _, Nat.le_refl _⟩ (fun v h' hq => ?_)
  obtain ⟨rfl, he⟩ := hq
  rw [he]
  clear he
  refine kx_iret (pc := 6) rfl (kx_dd d_Ob_checkIndex 4 rfl) (Nat.le_refl _) (Nat.le_refl _) ?_
  exact ⟨rfl, rfl⟩
theorem x_AL_elementData {l : Launch} {g : kx_G} {d : Nat} {h : kx_Mem} (o n ea cap : Nat) (ad : Nat → Nat) (hko : h.2.2.2.1 o = (1, 0)) (hl : LSc o n ea cap ad h) (c : Nat) (hc : c < n) : kx_Sp l g m_AL_elementData [.ref o, .int (nI c)] h (d) 0 0 (fun v h' => v = some (.ref (ad c)) ∧ h' = h) := by
  have hkea : h.2.2.2.1 ea = (54, cap) := hl.2.2.1.resolve_right (fun z => by omega)
  refine kx_enter_e (lv := [_, _]) (by decide +kernel) (Nat.le_of_ble_eq_true rfl) rfl ?_
  refine kx_aload_n (pc := 0) (kx_dd d_AL_elementData 0 rfl) rfl rfl ?_
  refine kx_getR (pc := 1) (b := ea) fl_AL_9 (by rw [hko]) rfl hl.2.1 (kx_dd d_AL_elementData 1 rfl) ?_
  refine kx_iload_n (pc := 4) (kx_dd d_AL_elementData 2 rfl) rfl rfl ?_
  refine kx_aldn (pc := 5) (b := (ad c)) c hkea (by decide) rfl (by have := hl.2.2.2.1; omega) (by have := hl.2.2.2.2.1; omega) (hl.2.2.2.2.2 c hc) (kx_dd d_AL_elementData 3 rfl) ?_
  refine kx_aret (pc := 6) (r := some ((ad c))) rfl (Or.inl ⟨_, rfl⟩) (kx_dd d_AL_elementData 4 rfl) (Nat.le_refl _) (Nat.le_refl _) ?_
  exact ⟨rfl, rfl⟩
theorem x_AL_get {l : Launch} {g : kx_G} {d : Nat} {h : kx_Mem} (o n ea cap : Nat) (ad : Nat → Nat) (hko : h.2.2.2.1 o = (1, 0)) (hl : LSc o n ea cap ad h) (c : Nat) (hc : c < n) : kx_Sp l g m_AL_get [.ref o, .int (nI c)] h (d + 2) 0 0 (fun v h' => v = some (.ref (ad c)) ∧ h' = h) := by
  refine kx_enter_e (lv := [_, _]) (by decide +kernel) (Nat.le_of_ble_eq_true rfl) rfl ?_
  refine kx_iload_n (pc := 0) (kx_dd d_AL_get 0 rfl) rfl rfl ?_
  refine kx_aload_n (pc := 1) (kx_dd d_AL_get 1 rfl) rfl rfl ?_
  refine kx_getI (pc := 2) fl_AL_48 (by rw [hko]) rfl (kx_dd d_AL_get 2 rfl) ?_
  rw [hl.1]
  refine kx_invS (pc := 5) (as := [_, _]) (kx_dd d_AL_get 3 rfl) ⟨lk_AL_118, wt_Ob_checkIndex⟩ w_Ob_checkIndex rfl rfl (Nat.le_of_ble_eq_true rfl) (x_Ob_checkIndex (d := d) c n hc (by have := hl.2.2.2.1; have := hl.2.2.2.2.1; omega)) (Nat.le_refl _) ⟨Nat.le_refl _, Nat.le_refl _⟩ (fun v h' hq => ?_)
  obtain ⟨rfl, he⟩ := hq
  rw [he]
  clear he
  refine kx_pop (pc := 8) (kx_dd d_AL_get 4 rfl) rfl ?_
  refine kx_aload_n (pc := 9) (kx_dd d_AL_get 5 rfl) rfl rfl ?_
  refine kx_iload_n (pc := 10) (kx_dd d_AL_get 6 rfl) rfl rfl ?_
  refine kx_invV (pc := 11) (a := o) (as := [_]) (kx_dd d_AL_get 7 rfl) ⟨lk_AL_123, wi_AL_elementData, we_AL_elementData⟩ w_AL_elementData (by rw [hko]) rfl rfl rfl rfl (Nat.le_of_ble_eq_true rfl) (x_AL_elementData (d := d + 1) o n ea cap ad hko hl c hc) (Nat.le_refl _) ⟨Nat.le_refl _, Nat.le_refl _⟩ (fun v h' hq => ?_)
  obtain ⟨rfl, he⟩ := hq
  rw [he]
  clear he
  refine kx_aret (pc := 14) (r := some ((ad c))) rfl (Or.inl ⟨_, rfl⟩) (kx_dd d_AL_get 8 rfl) (Nat.le_refl _) (Nat.le_refl _) ?_
  exact ⟨rfl, rfl⟩
noncomputable def forP (D : DK) (k kn : Nat) : Prop := D.2.2.2.2.2.2.1 k ≠ 0 ∧ deadP D.1 (D.2.2.2.2.2.2.1 k - 1) (D.2.2.2.2.2.2.2.1 k) kn
noncomputable def hadK (D : DK) (r : RU) (c kn : Nat) : Nat → Nat
  | 0 => 0
  | k + 1 => @ite Nat (D.2.2.2.2.1 k = c ∧ D.2.2.2.2.2.2.2.2 k ≤ kn ∧ ¬ forP D k kn) (Classical.propDecidable _) (match kiF r (D.2.2.2.2.2.1 k) with
    | none => hadK D r c kn k
    | some x => hadK D r c kn k ||| 2 ^ x) (hadK D r c kn k)
noncomputable def hadF (D : DK) (r : RU) (c kn : Nat) : Nat := hadK D r c kn D.2.2.2.1
theorem hadK_lt {D : DK} {r : RU} (ho : RUok r) {c kn : Nat} : ∀ k, hadK D r c kn k < 2 ^ 16
  | 0 => by show (0 : Nat) < 2 ^ 16; decide
  | k + 1 => by
    have ih := hadK_lt (D := D) ho (c := c) (kn := kn) k
    unfold hadK
    split
    · split
      · exact ih
      next x e =>
        have := (fnd_lt e).1
        have := ho.1
        exact Nat.or_lt_two_pow ih (Nat.pow_lt_pow_right (by decide) (by omega))
    · exact ih
theorem hadF_lt {D : DK} {r : RU} (ho : RUok r) {c kn : Nat} : hadF D r c kn < 2 ^ 16 := hadK_lt ho _
def chnP (ps : PS) (q nt lo fi : Nat) (w : Int32) (kn : Nat) : Prop := if w = 0 then natF ps q lo kn = nt else if w = 1 then natF ps q fi kn = nt else if w = 2 then natF ps q lo kn = nt ∧ natF ps q fi kn = nt else alwP ps q nt lo fi kn
noncomputable def orC (c : Prop) (b x : Nat) : Nat := @ite Nat c (Classical.propDecidable c) (x ||| b) x
theorem orC_t {c : Prop} {b x : Nat} (h : c) : orC c b x = x ||| b := if_pos h
theorem orC_f {c : Prop} {b x : Nat} (h : ¬ c) : orC c b x = x := if_neg h
theorem orC_lt {c : Prop} {b x n : Nat} (hx : x < 2 ^ n) (hb : b < 2 ^ n) : orC c b x < 2 ^ n := by
  unfold orC
  split
  · exact Nat.or_lt_two_pow hx hb
  · exact hx
abbrev lostD (D : DK) (c : Nat) : Nat := D.2.1.2.1 (cN D.2.2.1 c 2)
noncomputable def f1N (D : DK) (r : RU) (c : Nat) (x : Nat) : Nat := orC (ruS r 0 < nI (cN D.2.2.1 c 5)) 1 x
noncomputable def f2N (D : DK) (r : RU) (c : Nat) (x : Nat) : Nat := orC (¬ (ruS r 1 ≤ nI (lostD D c) ∧ nI (lostD D c) ≤ ruS r 2)) 2 x
noncomputable def f4N (D : DK) (r : RU) (c kn : Nat) (x : Nat) : Nat := orC (¬ chnP D.1 (cN D.2.2.1 c 0) (cN D.2.2.1 c 1) (lostD D c) (cN D.2.2.1 c 5) (ruS r 3) kn) 4 x
noncomputable def f8N (D : DK) (r : RU) (c kn : Nat) (x : Nat) : Nat := orC (ptF r (hadF D r c kn) < nedF r (D.2.2.1.2.2 c)) 8 x
noncomputable def f16N (D : DK) (r : RU) (c kn : Nat) (x : Nat) : Nat := orC (¬ metP r (D.2.2.1.2.2 c) (hadF D r c kn)) 16 x
noncomputable def f32N (D : DK) (c : Nat) (x : Nat) : Nat := orC (cN D.2.2.1 c 8 = 3) 32 x
noncomputable def faiF (D : DK) (r : RU) (c kn : Nat) : Nat := f32N D c (f16N D r c kn (f8N D r c kn (f4N D r c kn (f2N D r c (f1N D r c 0)))))
theorem faiF_lt {D : DK} {r : RU} {c kn : Nat} : faiF D r c kn < 2 ^ 6 := orC_lt (orC_lt (orC_lt (orC_lt (orC_lt (orC_lt (by decide) (by decide)) (by decide)) (by decide)) (by decide)) (by decide)) (by decide)
theorem DKc.k40 {h : kx_Mem} (hs : SC h) : h.2.2.2.1 40 = (1, 0) ∧ h.2.2.2.1 41 = (1, 0) := ⟨hs.t 40 rfl, hs.t 41 rfl⟩
theorem x_Do_claimAt {l : Launch} {g : kx_G} {d : Nat} {h : kx_Mem} (hs : SC h) (D : DK) (A : DA) (ho : DKok D) (hp : DKc D A h) (c : Nat) (hc : c < D.2.2.1.1) : kx_Sp l g m_Do_claimAt [.ref 39, .int (nI c)] h (d + 3) 0 0 (fun v h' => v = some (.ref (A.1 c)) ∧ h' = h) := by
  have o60 := ho.2.2.1.1
  have hcc := hp.2.2.2.2.1.2 c hc
  refine kx_enter_e (lv := [_, _]) (by decide +kernel) (Nat.le_of_ble_eq_true rfl) rfl ?_
  refine kx_iload_n (pc := 0) (kx_dd d_Do_claimAt 0 rfl) rfl rfl ?_
  refine kx_if_lt (pc := 1) (tgt := 29) (kx_dd d_Do_claimAt 1 rfl) rfl (fun c1 => ?_) (fun c1 => ?_)
  · exact absurd c1 (nI_pos (by omega))
  · refine kx_iload_n (pc := 4) (kx_dd d_Do_claimAt 2 rfl) rfl rfl ?_
    refine kx_aload_n (pc := 5) (kx_dd d_Do_claimAt 3 rfl) rfl rfl ?_
    refine kx_getR (pc := 6) (b := 40) fl_Do_12 (hs.k 39 rfl) rfl (hs.r 43 rfl) (kx_dd d_Do_claimAt 4 rfl) ?_
    refine kx_invV (pc := 9) (a := 40) (as := []) (kx_dd d_Do_claimAt 5 rfl) ⟨lk_Do_29, wi_AL_size, we_AL_size⟩ w_AL_size (hs.k 40 rfl) rfl rfl rfl rfl (Nat.le_of_ble_eq_true rfl) (x_AL_size (d := d + 2) 40 _ _ _ _ (DKc.k40 hs).1 hp.2.2.1) (Nat.le_refl _) ⟨Nat.le_refl _, Nat.le_refl _⟩ (fun v h' hq => ?_)
    obtain ⟨rfl, he⟩ := hq
    rw [he]
    clear he
    refine kx_icmp_ge (pc := 12) (tgt := 29) (kx_dd d_Do_claimAt 6 rfl) rfl (fun c12 => ?_) (fun c12 => ?_)
    · exact absurd c12 (nI_ge hc (by omega))
    · refine kx_aload_n (pc := 15) (kx_dd d_Do_claimAt 7 rfl) rfl rfl ?_
      refine kx_getR (pc := 16) (b := 40) fl_Do_12 (hs.k 39 rfl) rfl (hs.r 43 rfl) (kx_dd d_Do_claimAt 8 rfl) ?_
      refine kx_iload_n (pc := 19) (kx_dd d_Do_claimAt 9 rfl) rfl rfl ?_
      refine kx_invV (pc := 20) (a := 40) (as := [_]) (kx_dd d_Do_claimAt 10 rfl) ⟨lk_Do_33, wi_AL_get, we_AL_get⟩ w_AL_get (hs.k 40 rfl) rfl rfl rfl rfl (Nat.le_of_ble_eq_true rfl) (x_AL_get (d := d) 40 _ _ _ _ (DKc.k40 hs).1 hp.2.2.1 c (by omega)) (Nat.le_refl _) ⟨Nat.le_refl _, Nat.le_refl _⟩ (fun v h' hq => ?_)
      obtain ⟨rfl, he⟩ := hq
      rw [he]
      clear he
      refine kx_cast (pc := 23) (ci := 1) (by rw [hcc.2.2.1]) rfl cl_Do_37 (kx_dd d_Do_claimAt 11 rfl) ?_
      refine kx_goto (pc := 26) (tgt := 30) (kx_dd d_Do_claimAt 12 rfl) rfl ?_
      refine kx_aret (pc := 30) (r := some ((A.1 c))) rfl (Or.inl ⟨_, rfl⟩) (kx_dd d_Do_claimAt 14 rfl) (Nat.le_refl _) (Nat.le_refl _) ?_
      exact ⟨rfl, rfl⟩
theorem x_Do_claimAtN {l : Launch} {g : kx_G} {d : Nat} {h : kx_Mem} (hs : SC h) (D : DK) (A : DA) (ho : DKok D) (hp : DKc D A h) (c : Int32) (hc : ¬ (0 ≤ c ∧ c < nI D.2.2.1.1)) : kx_Sp l g m_Do_claimAt [.ref 39, .int c] h (d + 1) 0 0 (fun v h' => v = some .null ∧ h' = h) := by
  refine kx_enter_e (lv := [_, _]) (by decide +kernel) (Nat.le_of_ble_eq_true rfl) rfl ?_
  refine kx_iload_n (pc := 0) (kx_dd d_Do_claimAt 0 rfl) rfl rfl ?_
  refine kx_if_lt (pc := 1) (tgt := 29) (kx_dd d_Do_claimAt 1 rfl) rfl (fun c1 => ?_) (fun c1 => ?_)
  · refine kx_null (pc := 29) (kx_dd d_Do_claimAt 13 rfl) ?_
    refine kx_aret (pc := 30) (r := none) rfl (Or.inl ⟨_, rfl⟩) (kx_dd d_Do_claimAt 14 rfl) (Nat.le_refl _) (Nat.le_refl _) ?_
    exact ⟨rfl, rfl⟩
  · refine kx_iload_n (pc := 4) (kx_dd d_Do_claimAt 2 rfl) rfl rfl ?_
    refine kx_aload_n (pc := 5) (kx_dd d_Do_claimAt 3 rfl) rfl rfl ?_
    refine kx_getR (pc := 6) (b := 40) fl_Do_12 (hs.k 39 rfl) rfl (hs.r 43 rfl) (kx_dd d_Do_claimAt 4 rfl) ?_
    refine kx_invV (pc := 9) (a := 40) (as := []) (kx_dd d_Do_claimAt 5 rfl) ⟨lk_Do_29, wi_AL_size, we_AL_size⟩ w_AL_size (hs.k 40 rfl) rfl rfl rfl rfl (Nat.le_of_ble_eq_true rfl) (x_AL_size (d := d) 40 _ _ _ _ (DKc.k40 hs).1 hp.2.2.1) (Nat.le_refl _) ⟨Nat.le_refl _, Nat.le_refl _⟩ (fun v h' hq => ?_)
    obtain ⟨rfl, he⟩ := hq
    rw [he]
    clear he
    refine kx_icmp_ge (pc := 12) (tgt := 29) (kx_dd d_Do_claimAt 6 rfl) rfl (fun c12 => ?_) (fun c12 => ?_)
    · refine kx_null (pc := 29) (kx_dd d_Do_claimAt 13 rfl) ?_
      refine kx_aret (pc := 30) (r := none) rfl (Or.inl ⟨_, rfl⟩) (kx_dd d_Do_claimAt 14 rfl) (Nat.le_refl _) (Nat.le_refl _) ?_
      exact ⟨rfl, rfl⟩
    · exact absurd ⟨Int32.not_lt.mp c1, Int32.not_le.mp c12⟩ hc
theorem x_Do_paperAt {l : Launch} {g : kx_G} {d : Nat} {h : kx_Mem} (hs : SC h) (D : DK) (A : DA) (ho : DKok D) (hp : DKc D A h) (k : Nat) (hk : k < D.2.2.2.1) : kx_Sp l g m_Do_paperAt [.ref 39, .int (nI k)] h (d + 3) 0 0 (fun v h' => v = some (.ref (A.2.1 k)) ∧ h' = h) := by
  have o150 := ho.2.2.2.1
  have hpk := hp.2.2.2.2.2 k hk
  refine kx_enter_e (lv := [_, _]) (by decide +kernel) (Nat.le_of_ble_eq_true rfl) rfl ?_
  refine kx_iload_n (pc := 0) (kx_dd d_Do_paperAt 0 rfl) rfl rfl ?_
  refine kx_if_lt (pc := 1) (tgt := 29) (kx_dd d_Do_paperAt 1 rfl) rfl (fun c1 => ?_) (fun c1 => ?_)
  · exact absurd c1 (nI_pos (by omega))
  · refine kx_iload_n (pc := 4) (kx_dd d_Do_paperAt 2 rfl) rfl rfl ?_
    refine kx_aload_n (pc := 5) (kx_dd d_Do_paperAt 3 rfl) rfl rfl ?_
    refine kx_getR (pc := 6) (b := 41) fl_Do_18 (hs.k 39 rfl) rfl (hs.r 44 rfl) (kx_dd d_Do_paperAt 4 rfl) ?_
    refine kx_invV (pc := 9) (a := 41) (as := []) (kx_dd d_Do_paperAt 5 rfl) ⟨lk_Do_29, wi_AL_size, we_AL_size⟩ w_AL_size (hs.k 41 rfl) rfl rfl rfl rfl (Nat.le_of_ble_eq_true rfl) (x_AL_size (d := d + 2) 41 _ _ _ _ (DKc.k40 hs).2 hp.2.2.2.1) (Nat.le_refl _) ⟨Nat.le_refl _, Nat.le_refl _⟩ (fun v h' hq => ?_)
    obtain ⟨rfl, he⟩ := hq
    rw [he]
    clear he
    refine kx_icmp_ge (pc := 12) (tgt := 29) (kx_dd d_Do_paperAt 6 rfl) rfl (fun c12 => ?_) (fun c12 => ?_)
    · exact absurd c12 (nI_ge hk (by omega))
    · refine kx_aload_n (pc := 15) (kx_dd d_Do_paperAt 7 rfl) rfl rfl ?_
      refine kx_getR (pc := 16) (b := 41) fl_Do_18 (hs.k 39 rfl) rfl (hs.r 44 rfl) (kx_dd d_Do_paperAt 8 rfl) ?_
      refine kx_iload_n (pc := 19) (kx_dd d_Do_paperAt 9 rfl) rfl rfl ?_
      refine kx_invV (pc := 20) (a := 41) (as := [_]) (kx_dd d_Do_paperAt 10 rfl) ⟨lk_Do_33, wi_AL_get, we_AL_get⟩ w_AL_get (hs.k 41 rfl) rfl rfl rfl rfl (Nat.le_of_ble_eq_true rfl) (x_AL_get (d := d) 41 _ _ _ _ (DKc.k40 hs).2 hp.2.2.2.1 k (by omega)) (Nat.le_refl _) ⟨Nat.le_refl _, Nat.le_refl _⟩ (fun v h' hq => ?_)
      obtain ⟨rfl, he⟩ := hq
      rw [he]
      clear he
      refine kx_cast (pc := 23) (ci := 4) (by rw [hpk.2.2.1]) rfl cl_Do_39 (kx_dd d_Do_paperAt 11 rfl) ?_
      refine kx_goto (pc := 26) (tgt := 30) (kx_dd d_Do_paperAt 12 rfl) rfl ?_
      refine kx_aret (pc := 30) (r := some ((A.2.1 k))) rfl (Or.inl ⟨_, rfl⟩) (kx_dd d_Do_paperAt 14 rfl) (Nat.le_refl _) (Nat.le_refl _) ?_
      exact ⟨rfl, rfl⟩
theorem x_Do_paperAtN {l : Launch} {g : kx_G} {d : Nat} {h : kx_Mem} (hs : SC h) (D : DK) (A : DA) (ho : DKok D) (hp : DKc D A h) (c : Int32) (hc : ¬ (0 ≤ c ∧ c < nI D.2.2.2.1)) : kx_Sp l g m_Do_paperAt [.ref 39, .int c] h (d + 1) 0 0 (fun v h' => v = some .null ∧ h' = h) := by
  refine kx_enter_e (lv := [_, _]) (by decide +kernel) (Nat.le_of_ble_eq_true rfl) rfl ?_
  refine kx_iload_n (pc := 0) (kx_dd d_Do_paperAt 0 rfl) rfl rfl ?_
  refine kx_if_lt (pc := 1) (tgt := 29) (kx_dd d_Do_paperAt 1 rfl) rfl (fun c1 => ?_) (fun c1 => ?_)
  · refine kx_null (pc := 29) (kx_dd d_Do_paperAt 13 rfl) ?_
    refine kx_aret (pc := 30) (r := none) rfl (Or.inl ⟨_, rfl⟩) (kx_dd d_Do_paperAt 14 rfl) (Nat.le_refl _) (Nat.le_refl _) ?_
    exact ⟨rfl, rfl⟩
  · refine kx_iload_n (pc := 4) (kx_dd d_Do_paperAt 2 rfl) rfl rfl ?_
    refine kx_aload_n (pc := 5) (kx_dd d_Do_paperAt 3 rfl) rfl rfl ?_
    refine kx_getR (pc := 6) (b := 41) fl_Do_18 (hs.k 39 rfl) rfl (hs.r 44 rfl) (kx_dd d_Do_paperAt 4 rfl) ?_
    refine kx_invV (pc := 9) (a := 41) (as := []) (kx_dd d_Do_paperAt 5 rfl) ⟨lk_Do_29, wi_AL_size, we_AL_size⟩ w_AL_size (hs.k 41 rfl) rfl rfl rfl rfl (Nat.le_of_ble_eq_true rfl) (x_AL_size (d := d) 41 _ _ _ _ (DKc.k40 hs).2 hp.2.2.2.1) (Nat.le_refl _) ⟨Nat.le_refl _, Nat.le_refl _⟩ (fun v h' hq => ?_)
    obtain ⟨rfl, he⟩ := hq
    rw [he]
    clear he
    refine kx_icmp_ge (pc := 12) (tgt := 29) (kx_dd d_Do_paperAt 6 rfl) rfl (fun c12 => ?_) (fun c12 => ?_)
    · refine kx_null (pc := 29) (kx_dd d_Do_paperAt 13 rfl) ?_
      refine kx_aret (pc := 30) (r := none) rfl (Or.inl ⟨_, rfl⟩) (kx_dd d_Do_paperAt 14 rfl) (Nat.le_refl _) (Nat.le_refl _) ?_
      exact ⟨rfl, rfl⟩
    · exact absurd ⟨Int32.not_lt.mp c1, Int32.not_le.mp c12⟩ hc
theorem x_Do_isForged {l : Launch} {g : kx_G} {d : Nat} {h : kx_Mem} (hs : SC h) (D : DK) (A : DA) (ho : DKok D) (hp : DKc D A h) (k : Nat) (hk : k < D.2.2.2.1) (kn : Nat) (hkn : kn < 2 ^ 31) : kx_Sp l g m_Do_isForged [.ref 39, .ref (A.2.1 k), .int (nI kn)] h (d + 2) 0 0 (fun v h' => v = some (.int (bP (forP D k kn))) ∧ h' = h) := by
  have o60 := ho.2.2.1.1
  have o150 := ho.2.2.2.1
  have oP := ho.1.1
  have hpk := hp.2.2.2.2.2 k hk
  have opk := ho.2.2.2.2 k hk
  refine kx_enter_e (lv := [_, _, _]) (by decide +kernel) (Nat.le_of_ble_eq_true rfl) rfl ?_
  refine kx_aload_n (pc := 0) (kx_dd d_Do_isForged 0 rfl) rfl rfl ?_
  refine kx_getI (pc := 1) fl_Do_45 (by rw [hpk.2.2.1]) rfl (kx_dd d_Do_isForged 1 rfl) ?_
  refine kx_iconst (pc := 4) (v := -1) (kx_dd d_Do_isForged 2 rfl) rfl ?_
  refine kx_icmp_eq (pc := 5) (tgt := 31) (kx_dd d_Do_isForged 3 rfl) rfl (fun c5 => ?_) (fun c5 => ?_)
  · refine kx_iconst (pc := 31) (v := 0) (kx_dd d_Do_isForged 15 rfl) rfl ?_
    refine kx_zret (pc := 32) rfl rfl (kx_dd d_Do_isForged 16 rfl) (Nat.le_refl _) (Nat.le_refl _) ?_
    rw [hpk.2.2.2.2.2.1, nI_m1 (by omega)] at c5
    exact ⟨by rw [bP_f (fun z => z.1 c5)], rfl⟩
  · refine kx_aload_n (pc := 8) (kx_dd d_Do_isForged 4 rfl) rfl rfl ?_
    refine kx_getR (pc := 9) (b := 14) fl_Do_21 (hs.k 39 rfl) rfl (hs.r 41 rfl) (kx_dd d_Do_isForged 5 rfl) ?_
    refine kx_aload_n (pc := 12) (kx_dd d_Do_isForged 6 rfl) rfl rfl ?_
    refine kx_getI (pc := 13) fl_Do_45 (by rw [hpk.2.2.1]) rfl (kx_dd d_Do_isForged 7 rfl) ?_
    refine kx_aload_n (pc := 16) (kx_dd d_Do_isForged 8 rfl) rfl rfl ?_
    refine kx_getI (pc := 17) fl_Do_49 (by rw [hpk.2.2.1]) rfl (kx_dd d_Do_isForged 9 rfl) ?_
    refine kx_iload_n (pc := 20) (kx_dd d_Do_isForged 10 rfl) rfl rfl ?_
    rw [hpk.2.2.2.2.2.1, nI_m1 (by omega)] at c5
    rw [hpk.2.2.2.2.2.1, hpk.2.2.2.2.2.2.1, nI_m1' (by omega)]
    refine kx_invV (pc := 21) (a := 14) (as := [_, _, _]) (kx_dd d_Do_isForged 11 rfl) ⟨lk_Do_52, wi_Pe_isDead, we_Pe_isDead⟩ w_Pe_isDead (hs.k 14 rfl) rfl rfl rfl rfl (Nat.le_of_ble_eq_true rfl) (x_Pe_isDead (d := d) hs D.1 ho.1 hp.1 (D.2.2.2.2.2.2.1 k - 1) (D.2.2.2.2.2.2.2.1 k) kn (by omega) (by omega) hkn) (Nat.le_refl _) ⟨Nat.le_refl _, Nat.le_refl _⟩ (fun v h' hq => ?_)
    obtain ⟨rfl, he⟩ := hq
    rw [he]
    clear he
    refine kx_if_eq (pc := 24) (tgt := 31) (kx_dd d_Do_isForged 12 rfl) rfl (fun c24 => ?_) (fun c24 => ?_)
    · refine kx_iconst (pc := 31) (v := 0) (kx_dd d_Do_isForged 15 rfl) rfl ?_
      refine kx_zret (pc := 32) rfl rfl (kx_dd d_Do_isForged 16 rfl) (Nat.le_refl _) (Nat.le_refl _) ?_
      rw [bP_0] at c24
      exact ⟨by rw [bP_f (fun z => c24 z.2)], rfl⟩
    · refine kx_iconst (pc := 27) (v := 1) (kx_dd d_Do_isForged 13 rfl) rfl ?_
      refine kx_goto (pc := 28) (tgt := 32) (kx_dd d_Do_isForged 14 rfl) rfl ?_
      refine kx_zret (pc := 32) rfl rfl (kx_dd d_Do_isForged 16 rfl) (Nat.le_refl _) (Nat.le_refl _) ?_
      rw [bP_0, Classical.not_not] at c24
      exact ⟨by rw [bP_t ⟨c5, c24⟩], rfl⟩
theorem x_Do_had_loop {l : Launch} {g : kx_G} {d : Nat} {h : kx_Mem} (hs : SC h) (D : DK) (A : DA) (ho : DKok D) (hp : DKc D A h) (a : Nat) (hr : IsRu h a) (r : RU) (hro : RUok r) (hrp : RUc r a h) (c : Nat) (hc : c < D.2.2.1.1) (kn : Nat) (hkn : kn < 2 ^ 31) : ∀ n k, k + n = D.2.2.2.1 → ∀ w6 w7, kx_X (l, g, m_Do_hadKinds, d + 3, 0, 0, (fun v h' => v = some (.int (nI (hadF D r c kn))) ∧ h' = h)) 0 0 6 [some (.ref 39), some (.ref (A.1 c)), some (.ref a), some (.int (nI kn)), some (.int (nI (hadK D r c kn k))), some (.int (nI k)), w6, w7] [] (h) := by
  intro n
  induction n with
  | zero =>
    intro k hk w6 w7
    have hk0 : k = D.2.2.2.1 := by omega
    subst hk0
    have o60 := ho.2.2.1.1
    have o150 := ho.2.2.2.1
    have oP := ho.1.1
    refine kx_iload (pc := 6) (kx_dd d_Do_hadKinds 4 rfl) rfl ?_
    refine kx_aload_n (pc := 8) (kx_dd d_Do_hadKinds 5 rfl) rfl rfl ?_
    refine kx_getR (pc := 9) (b := 41) fl_Do_18 (hs.k 39 rfl) rfl (hs.r 44 rfl) (kx_dd d_Do_hadKinds 6 rfl) ?_
    refine kx_invV (pc := 12) (a := 41) (as := []) (kx_dd d_Do_hadKinds 7 rfl) ⟨lk_Do_29, wi_AL_size, we_AL_size⟩ w_AL_size (hs.k 41 rfl) rfl rfl rfl rfl (Nat.le_of_ble_eq_true rfl) (x_AL_size (d := d + 2) 41 _ _ _ _ (DKc.k40 hs).2 hp.2.2.2.1) (Nat.le_refl _) ⟨Nat.le_refl _, Nat.le_refl _⟩ (fun v h' hq => ?_)
    obtain ⟨rfl, he⟩ := hq
    rw [he]
    clear he
    refine kx_icmp_ge (pc := 15) (tgt := 92) (kx_dd d_Do_hadKinds 8 rfl) rfl (fun c15 => ?_) (fun c15 => ?_)
    · refine kx_iload (pc := 92) (kx_dd d_Do_hadKinds 44 rfl) rfl ?_
      refine kx_iret (pc := 94) rfl (kx_dd d_Do_hadKinds 45 rfl) (Nat.le_refl _) (Nat.le_refl _) ?_
      exact ⟨rfl, rfl⟩
    · exact absurd (by exact Int32.le_refl _) c15
  | succ n ih =>
    intro k hk w6 w7
    have o60 := ho.2.2.1.1
    have o150 := ho.2.2.2.1
    have oP := ho.1.1
    have hcc := hp.2.2.2.2.1.2 c hc
    have hk : k < D.2.2.2.1 := by omega
    have hpk := hp.2.2.2.2.2 k hk
    have opk := ho.2.2.2.2 k hk
    have hof := hp.2.2.2.2.1.2 (D.2.2.2.2.1 k) opk.1
    have hki : ∀ x, kiF r (D.2.2.2.2.2.1 k) = some x → x < 16 := fun x e => Nat.lt_of_lt_of_le (fnd_lt e).1 hro.1
    have hon : oI (kiF r (D.2.2.2.2.2.1 k)) = -1 ↔ kiF r (D.2.2.2.2.2.1 k) = none := oI_n (fun x e => by have := hki x e; omega)
    refine kx_iload (pc := 6) (kx_dd d_Do_hadKinds 4 rfl) rfl ?_
    refine kx_aload_n (pc := 8) (kx_dd d_Do_hadKinds 5 rfl) rfl rfl ?_
    refine kx_getR (pc := 9) (b := 41) fl_Do_18 (hs.k 39 rfl) rfl (hs.r 44 rfl) (kx_dd d_Do_hadKinds 6 rfl) ?_
    refine kx_invV (pc := 12) (a := 41) (as := []) (kx_dd d_Do_hadKinds 7 rfl) ⟨lk_Do_29, wi_AL_size, we_AL_size⟩ w_AL_size (hs.k 41 rfl) rfl rfl rfl rfl (Nat.le_of_ble_eq_true rfl) (x_AL_size (d := d + 2) 41 _ _ _ _ (DKc.k40 hs).2 hp.2.2.2.1) (Nat.le_refl _) ⟨Nat.le_refl _, Nat.le_refl _⟩ (fun v h' hq => ?_)
    obtain ⟨rfl, he⟩ := hq
    rw [he]
    clear he
    refine kx_icmp_ge (pc := 15) (tgt := 92) (kx_dd d_Do_hadKinds 8 rfl) rfl (fun c15 => ?_) (fun c15 => ?_)
    · exact absurd c15 (by exact nI_ge (by omega) (by omega))
    · refine kx_aload_n (pc := 18) (kx_dd d_Do_hadKinds 9 rfl) rfl rfl ?_
      refine kx_getR (pc := 19) (b := 41) fl_Do_18 (hs.k 39 rfl) rfl (hs.r 44 rfl) (kx_dd d_Do_hadKinds 10 rfl) ?_
      refine kx_iload (pc := 22) (kx_dd d_Do_hadKinds 11 rfl) rfl ?_
      refine kx_invV (pc := 24) (a := 41) (as := [_]) (kx_dd d_Do_hadKinds 12 rfl) ⟨lk_Do_33, wi_AL_get, we_AL_get⟩ w_AL_get (hs.k 41 rfl) rfl rfl rfl rfl (Nat.le_of_ble_eq_true rfl) (x_AL_get (d := d) 41 _ _ _ _ (DKc.k40 hs).2 hp.2.2.2.1 k (by omega)) (Nat.le_refl _) ⟨Nat.le_refl _, Nat.le_refl _⟩ (fun v h' hq => ?_)
      obtain ⟨rfl, he⟩ := hq
      rw [he]
      clear he
      refine kx_cast (pc := 27) (ci := 4) (by rw [hpk.2.2.1]) rfl cl_Do_39 (kx_dd d_Do_hadKinds 13 rfl) ?_
      refine kx_astore_e (pc := 30) (lv' := [_, _, _, _, _, _, _, _]) (kx_dd d_Do_hadKinds 14 rfl) (Nat.le_of_ble_eq_true rfl) rfl ?_
      refine kx_aload (pc := 32) (kx_dd d_Do_hadKinds 15 rfl) rfl ?_
      refine kx_getR (pc := 34) (b := (A.1 (D.2.2.2.2.1 k))) fl_Do_58 (by rw [hpk.2.2.1]) rfl hpk.2.2.2.1 (kx_dd d_Do_hadKinds 16 rfl) ?_
      refine kx_aload_n (pc := 37) (kx_dd d_Do_hadKinds 17 rfl) rfl rfl ?_
      refine kx_acmp_ne (pc := 38) (tgt := 86) hof.2.1 hcc.2.1 (kx_dd d_Do_hadKinds 18 rfl) rfl (fun c38 => ?_) (fun c38 => ?_)
      · refine kx_iinc_e (pc := 86) (v := nI (k + 1)) (lv' := [_, _, _, _, _, _, _, _]) (kx_dd d_Do_hadKinds 42 rfl) rfl (Nat.le_of_ble_eq_true rfl) (nI_1 k) rfl ?_
        refine kx_goto (pc := 89) (tgt := 6) (kx_dd d_Do_hadKinds 43 rfl) rfl ?_
        have e1 : hadK D r c kn (k + 1) = hadK D r c kn k := if_neg (fun z => c38 (by rw [z.1]))
        have ih1 := ih (k + 1) (by omega)
        rw [e1] at ih1
        exact ih1 _ _
      · refine kx_aload (pc := 41) (kx_dd d_Do_hadKinds 19 rfl) rfl ?_
        refine kx_getI (pc := 43) fl_Do_62 (by rw [hpk.2.2.1]) rfl (kx_dd d_Do_hadKinds 20 rfl) ?_
        refine kx_iload_n (pc := 46) (kx_dd d_Do_hadKinds 21 rfl) rfl rfl ?_
        refine kx_icmp_gt (pc := 47) (tgt := 86) (kx_dd d_Do_hadKinds 22 rfl) rfl (fun c47 => ?_) (fun c47 => ?_)
        · refine kx_iinc_e (pc := 86) (v := nI (k + 1)) (lv' := [_, _, _, _, _, _, _, _]) (kx_dd d_Do_hadKinds 42 rfl) rfl (Nat.le_of_ble_eq_true rfl) (nI_1 k) rfl ?_
          refine kx_goto (pc := 89) (tgt := 6) (kx_dd d_Do_hadKinds 43 rfl) rfl ?_
          rw [hpk.2.2.2.2.2.2.2, nI_ltI hkn (by omega)] at c47
          have e1 : hadK D r c kn (k + 1) = hadK D r c kn k := if_neg (fun z => by omega)
          have ih1 := ih (k + 1) (by omega)
          rw [e1] at ih1
          exact ih1 _ _
        · refine kx_aload_n (pc := 50) (kx_dd d_Do_hadKinds 23 rfl) rfl rfl ?_
          refine kx_aload (pc := 51) (kx_dd d_Do_hadKinds 24 rfl) rfl ?_
          refine kx_getL (pc := 53) fl_Do_65 (by rw [hpk.2.2.1]) rfl (kx_dd d_Do_hadKinds 25 rfl) ?_
          rw [hpk.2.2.2.2.1]
          refine kx_invV (pc := 56) (a := a) (as := [_]) (kx_dd d_Do_hadKinds 26 rfl) ⟨lk_Do_69, wi_Ru_kindOf, we_Ru_kindOf⟩ w_Ru_kindOf (by rw [hr.1]) rfl rfl rfl rfl (Nat.le_of_ble_eq_true rfl) (x_Ru_kindOf (d := d + 2) a hr r hro hrp (D.2.2.2.2.2.1 k) (by omega)) (Nat.le_refl _) ⟨Nat.le_refl _, Nat.le_refl _⟩ (fun v h' hq => ?_)
          obtain ⟨rfl, he⟩ := hq
          rw [he]
          clear he
          refine kx_istore_e (pc := 59) (lv' := [_, _, _, _, _, _, _, _]) (kx_dd d_Do_hadKinds 27 rfl) (Nat.le_of_ble_eq_true rfl) rfl ?_
          refine kx_iload (pc := 61) (kx_dd d_Do_hadKinds 28 rfl) rfl ?_
          refine kx_iconst (pc := 63) (v := -1) (kx_dd d_Do_hadKinds 29 rfl) rfl ?_
          refine kx_icmp_eq (pc := 64) (tgt := 86) (kx_dd d_Do_hadKinds 30 rfl) rfl (fun c64 => ?_) (fun c64 => ?_)
          · refine kx_iinc_e (pc := 86) (v := nI (k + 1)) (lv' := [_, _, _, _, _, _, _, _]) (kx_dd d_Do_hadKinds 42 rfl) rfl (Nat.le_of_ble_eq_true rfl) (nI_1 k) rfl ?_
            refine kx_goto (pc := 89) (tgt := 6) (kx_dd d_Do_hadKinds 43 rfl) rfl ?_
            rw [hon] at c64
            have e1 : hadK D r c kn (k + 1) = hadK D r c kn k := by
              rw [hadK, c64]
              split <;> rfl
            have ih1 := ih (k + 1) (by omega)
            rw [e1] at ih1
            exact ih1 _ _
          · refine kx_aload_n (pc := 67) (kx_dd d_Do_hadKinds 31 rfl) rfl rfl ?_
            refine kx_aload (pc := 68) (kx_dd d_Do_hadKinds 32 rfl) rfl ?_
            refine kx_iload_n (pc := 70) (kx_dd d_Do_hadKinds 33 rfl) rfl rfl ?_
            refine kx_invV (pc := 71) (a := 39) (as := [_, _]) (kx_dd d_Do_hadKinds 34 rfl) ⟨lk_Do_75, wi_Do_isForged, we_Do_isForged⟩ w_Do_isForged (hs.k 39 rfl) rfl rfl rfl rfl (Nat.le_of_ble_eq_true rfl) (x_Do_isForged (d := d) hs D A ho hp k hk kn hkn) (Nat.le_refl _) ⟨Nat.le_refl _, Nat.le_refl _⟩ (fun v h' hq => ?_)
            obtain ⟨rfl, he⟩ := hq
            rw [he]
            clear he
            refine kx_if_ne (pc := 74) (tgt := 86) (kx_dd d_Do_hadKinds 35 rfl) rfl (fun c74 => ?_) (fun c74 => ?_)
            · refine kx_iinc_e (pc := 86) (v := nI (k + 1)) (lv' := [_, _, _, _, _, _, _, _]) (kx_dd d_Do_hadKinds 42 rfl) rfl (Nat.le_of_ble_eq_true rfl) (nI_1 k) rfl ?_
              refine kx_goto (pc := 89) (tgt := 6) (kx_dd d_Do_hadKinds 43 rfl) rfl ?_
              rw [bP_0, Classical.not_not] at c74
              have e1 : hadK D r c kn (k + 1) = hadK D r c kn k := if_neg (fun z => z.2.2 c74)
              have ih1 := ih (k + 1) (by omega)
              rw [e1] at ih1
              exact ih1 _ _
            · obtain ⟨x, ex⟩ : ∃ x, kiF r (D.2.2.2.2.2.1 k) = some x := by
                cases e : kiF r (D.2.2.2.2.2.1 k) with
                | none => exact absurd (hon.mpr e) c64
                | some x => exact ⟨x, rfl⟩
              have hx := hki x ex
              refine kx_iload (pc := 77) (kx_dd d_Do_hadKinds 36 rfl) rfl ?_
              refine kx_iconst (pc := 79) (v := 1) (kx_dd d_Do_hadKinds 37 rfl) rfl ?_
              refine kx_iload (pc := 80) (kx_dd d_Do_hadKinds 38 rfl) rfl ?_
              rw [ex, show oI (some x) = nI x from rfl]
              refine kx_ishl (pc := 82) (kx_dd d_Do_hadKinds 39 rfl) ?_
              rw [nI_pow (by omega)]
              refine kx_ior (pc := 83) (kx_dd d_Do_hadKinds 40 rfl) ?_
              rw [nI_or]
              refine kx_istore_e (pc := 84) (lv' := [_, _, _, _, _, _, _, _]) (kx_dd d_Do_hadKinds 41 rfl) (Nat.le_of_ble_eq_true rfl) rfl ?_
              refine kx_iinc_e (pc := 86) (v := nI (k + 1)) (lv' := [_, _, _, _, _, _, _, _]) (kx_dd d_Do_hadKinds 42 rfl) rfl (Nat.le_of_ble_eq_true rfl) (nI_1 k) rfl ?_
              refine kx_goto (pc := 89) (tgt := 6) (kx_dd d_Do_hadKinds 43 rfl) rfl ?_
              rw [bP_0] at c74
              rw [hpk.2.2.2.2.2.2.2, nI_ltI hkn (by omega)] at c47
              have eof := hp.2.2.2.2.1.1 _ _ opk.1 hc c38
              have e1 : hadK D r c kn (k + 1) = hadK D r c kn k ||| 2 ^ x := by
                rw [hadK, if_pos ⟨eof, by omega, c74⟩, ex]
              have ih1 := ih (k + 1) (by omega)
              rw [e1] at ih1
              exact ih1 _ _
theorem x_Do_hadKinds {l : Launch} {g : kx_G} {d : Nat} {h : kx_Mem} (hs : SC h) (D : DK) (A : DA) (ho : DKok D) (hp : DKc D A h) (a : Nat) (hr : IsRu h a) (r : RU) (hro : RUok r) (hrp : RUc r a h) (c : Nat) (hc : c < D.2.2.1.1) (kn : Nat) (hkn : kn < 2 ^ 31) : kx_Sp l g m_Do_hadKinds [.ref 39, .ref (A.1 c), .ref a, .int (nI kn)] h (d + 3) 0 0 (fun v h' => v = some (.int (nI (hadF D r c kn))) ∧ h' = h) := by
  refine kx_enter_e (lv := [_, _, _, _, _, _, _, _]) (by decide +kernel) (Nat.le_of_ble_eq_true rfl) rfl ?_
  refine kx_iconst (pc := 0) (v := 0) (kx_dd d_Do_hadKinds 0 rfl) rfl ?_
  refine kx_istore_e (pc := 1) (lv' := [_, _, _, _, _, _, _, _]) (kx_dd d_Do_hadKinds 1 rfl) (Nat.le_of_ble_eq_true rfl) rfl ?_
  refine kx_iconst (pc := 3) (v := 0) (kx_dd d_Do_hadKinds 2 rfl) rfl ?_
  refine kx_istore_e (pc := 4) (lv' := [_, _, _, _, _, _, _, _]) (kx_dd d_Do_hadKinds 3 rfl) (Nat.le_of_ble_eq_true rfl) rfl ?_
  exact x_Do_had_loop hs D A ho hp a hr r hro hrp c hc kn hkn D.2.2.2.1 0 (by omega) _ _
theorem x_Do_isOfNation {l : Launch} {g : kx_G} {d : Nat} {h : kx_Mem} (hs : SC h) (D : DK) (A : DA) (ho : DKok D) (hp : DKc D A h) (c : Nat) (hc : c < D.2.2.1.1) (lo : Nat) (hlo : lo < 2 ^ 31) (w : Int32) (kn : Nat) (hkn : kn < 2 ^ 31) : kx_Sp l g m_Do_isOfNation [.ref 39, .ref (A.1 c), .int (nI lo), .int w, .int (nI kn)] h (d + 3) 0 0 (fun v h' => v = some (.int (bP (chnP D.1 (cN D.2.2.1 c 0) (cN D.2.2.1 c 1) lo (cN D.2.2.1 c 5) w kn))) ∧ h' = h) := by
  have o60 := ho.2.2.1.1
  have o150 := ho.2.2.2.1
  have oP := ho.1.1
  have hcc := hp.2.2.2.2.1.2 c hc
  have occ := ho.2.2.1.2 c hc
  have f0 := (hcc.2.2.2.1 0 (by decide) (by decide)).trans (occ.1 0 (by decide) (by decide) (by decide) (by decide))
  have f1 := (hcc.2.2.2.1 1 (by decide) (by decide)).trans (occ.1 1 (by decide) (by decide) (by decide) (by decide))
  have f5 := (hcc.2.2.2.1 5 (by decide) (by decide)).trans (occ.1 5 (by decide) (by decide) (by decide) (by decide))
  obtain ⟨-, q0, q1, q2, q3, q4, q5, qd, -⟩ := occ
  refine kx_enter_e (lv := [_, _, _, _, _, _, _]) (by decide +kernel) (Nat.le_of_ble_eq_true rfl) rfl ?_
  refine kx_aload_n (pc := 0) (kx_dd d_Do_isOfNation 0 rfl) rfl rfl ?_
  refine kx_getR (pc := 1) (b := 14) fl_Do_21 (hs.k 39 rfl) rfl (hs.r 41 rfl) (kx_dd d_Do_isOfNation 1 rfl) ?_
  refine kx_aload_n (pc := 4) (kx_dd d_Do_isOfNation 2 rfl) rfl rfl ?_
  refine kx_getI (pc := 5) fl_Do_120 (by rw [hcc.2.2.1]) rfl (kx_dd d_Do_isOfNation 3 rfl) ?_
  refine kx_iload_n (pc := 8) (kx_dd d_Do_isOfNation 4 rfl) rfl rfl ?_
  refine kx_iload (pc := 9) (kx_dd d_Do_isOfNation 5 rfl) rfl ?_
  rw [f0]
  refine kx_invV (pc := 11) (a := 14) (as := [_, _, _]) (kx_dd d_Do_isOfNation 6 rfl) ⟨lk_Do_123, wi_Pe_nationFor, we_Pe_nationFor⟩ w_Pe_nationFor (hs.k 14 rfl) rfl rfl rfl rfl (Nat.le_of_ble_eq_true rfl) (x_Pe_nationFor (d := d + 1) hs D.1 ho.1 hp.1 (cN D.2.2.1 c 0) lo kn (by omega) hlo hkn) (Nat.le_refl _) ⟨Nat.le_refl _, Nat.le_refl _⟩ (fun v h' hq => ?_)
  obtain ⟨rfl, he⟩ := hq
  rw [he]
  clear he
  refine kx_aload_n (pc := 14) (kx_dd d_Do_isOfNation 7 rfl) rfl rfl ?_
  refine kx_getI (pc := 15) fl_Do_127 (by rw [hcc.2.2.1]) rfl (kx_dd d_Do_isOfNation 8 rfl) ?_
  refine kx_icmp_ne (pc := 18) (tgt := 25) (kx_dd d_Do_isOfNation 9 rfl) rfl (fun c18 => ?_) (fun c18 => ?_)
  · refine kx_iconst (pc := 25) (v := 0) (kx_dd d_Do_isOfNation 12 rfl) rfl ?_
    refine kx_istore_e (pc := 26) (lv' := [_, _, _, _, _, _, _]) (kx_dd d_Do_isOfNation 13 rfl) (Nat.le_of_ble_eq_true rfl) rfl ?_
    refine kx_aload_n (pc := 28) (kx_dd d_Do_isOfNation 14 rfl) rfl rfl ?_
    refine kx_getR (pc := 29) (b := 14) fl_Do_21 (hs.k 39 rfl) rfl (hs.r 41 rfl) (kx_dd d_Do_isOfNation 15 rfl) ?_
    refine kx_aload_n (pc := 32) (kx_dd d_Do_isOfNation 16 rfl) rfl rfl ?_
    refine kx_getI (pc := 33) fl_Do_120 (by rw [hcc.2.2.1]) rfl (kx_dd d_Do_isOfNation 17 rfl) ?_
    refine kx_aload_n (pc := 36) (kx_dd d_Do_isOfNation 18 rfl) rfl rfl ?_
    refine kx_getI (pc := 37) fl_Do_92 (by rw [hcc.2.2.1]) rfl (kx_dd d_Do_isOfNation 19 rfl) ?_
    refine kx_iload (pc := 40) (kx_dd d_Do_isOfNation 20 rfl) rfl ?_
    rw [f0, f5]
    refine kx_invV (pc := 42) (a := 14) (as := [_, _, _]) (kx_dd d_Do_isOfNation 21 rfl) ⟨lk_Do_123, wi_Pe_nationFor, we_Pe_nationFor⟩ w_Pe_nationFor (hs.k 14 rfl) rfl rfl rfl rfl (Nat.le_of_ble_eq_true rfl) (x_Pe_nationFor (d := d + 1) hs D.1 ho.1 hp.1 (cN D.2.2.1 c 0) (cN D.2.2.1 c 5) kn (by omega) (by omega) hkn) (Nat.le_refl _) ⟨Nat.le_refl _, Nat.le_refl _⟩ (fun v h' hq => ?_)
    obtain ⟨rfl, he⟩ := hq
    rw [he]
    clear he
    refine kx_aload_n (pc := 45) (kx_dd d_Do_isOfNation 22 rfl) rfl rfl ?_
    refine kx_getI (pc := 46) fl_Do_127 (by rw [hcc.2.2.1]) rfl (kx_dd d_Do_isOfNation 23 rfl) ?_
    refine kx_icmp_ne (pc := 49) (tgt := 56) (kx_dd d_Do_isOfNation 24 rfl) rfl (fun c49 => ?_) (fun c49 => ?_)
    · refine kx_iconst (pc := 56) (v := 0) (kx_dd d_Do_isOfNation 27 rfl) rfl ?_
      refine kx_istore_e (pc := 57) (lv' := [_, _, _, _, _, _, _]) (kx_dd d_Do_isOfNation 28 rfl) (Nat.le_of_ble_eq_true rfl) rfl ?_
      refine kx_iload_n (pc := 59) (kx_dd d_Do_isOfNation 29 rfl) rfl rfl ?_
      by_cases e60_0 : w = 0
      · refine kx_tableIn (pc := 60) (tgt := 88) (kx_dd d_Do_isOfNation 30 rfl) (by rw [e60_0] <;> decide) (by rw [e60_0] <;> decide) (by rw [e60_0] <;> rfl) rfl ?_
        refine kx_iload (pc := 88) (kx_dd d_Do_isOfNation 31 rfl) rfl ?_
        refine kx_zret (pc := 90) rfl rfl (kx_dd d_Do_isOfNation 32 rfl) (Nat.le_refl _) (Nat.le_refl _) ?_
        rw [f1, nI_eq (by have := natF_le ho.1 (p := (cN D.2.2.1 c 0)) (day := lo) (kn := kn); omega) (by omega)] at c18
        rw [f1, nI_eq (by have := natF_le ho.1 (p := (cN D.2.2.1 c 0)) (day := (cN D.2.2.1 c 5)) (kn := kn); omega) (by omega)] at c49
        refine ⟨?_, rfl⟩
        have e9 : chnP D.1 (cN D.2.2.1 c 0) (cN D.2.2.1 c 1) lo (cN D.2.2.1 c 5) w kn ↔ natF D.1 (cN D.2.2.1 c 0) lo kn = (cN D.2.2.1 c 1) := by unfold chnP; rw [if_pos e60_0]
        rw [bP_c e9, bP_f c18]
      · skip
        by_cases e60_1 : w = 1
        · refine kx_tableIn (pc := 60) (tgt := 91) (kx_dd d_Do_isOfNation 30 rfl) (by rw [e60_1] <;> decide) (by rw [e60_1] <;> decide) (by rw [e60_1] <;> rfl) rfl ?_
          refine kx_iload (pc := 91) (kx_dd d_Do_isOfNation 33 rfl) rfl ?_
          refine kx_zret (pc := 93) rfl rfl (kx_dd d_Do_isOfNation 34 rfl) (Nat.le_refl _) (Nat.le_refl _) ?_
          rw [f1, nI_eq (by have := natF_le ho.1 (p := (cN D.2.2.1 c 0)) (day := lo) (kn := kn); omega) (by omega)] at c18
          rw [f1, nI_eq (by have := natF_le ho.1 (p := (cN D.2.2.1 c 0)) (day := (cN D.2.2.1 c 5)) (kn := kn); omega) (by omega)] at c49
          refine ⟨?_, rfl⟩
          have e9 : chnP D.1 (cN D.2.2.1 c 0) (cN D.2.2.1 c 1) lo (cN D.2.2.1 c 5) w kn ↔ natF D.1 (cN D.2.2.1 c 0) (cN D.2.2.1 c 5) kn = (cN D.2.2.1 c 1) := by unfold chnP; rw [if_neg e60_0, if_pos e60_1]
          rw [bP_c e9, bP_f c49]
        · skip
          by_cases e60_2 : w = 2
          · refine kx_tableIn (pc := 60) (tgt := 94) (kx_dd d_Do_isOfNation 30 rfl) (by rw [e60_2] <;> decide) (by rw [e60_2] <;> decide) (by rw [e60_2] <;> rfl) rfl ?_
            refine kx_iload (pc := 94) (kx_dd d_Do_isOfNation 35 rfl) rfl ?_
            refine kx_if_eq (pc := 96) (tgt := 108) (kx_dd d_Do_isOfNation 36 rfl) rfl (fun _ => ?_) (fun c96 => absurd c96 (by decide))
            refine kx_iconst (pc := 108) (v := 0) (kx_dd d_Do_isOfNation 41 rfl) rfl ?_
            refine kx_zret (pc := 109) rfl rfl (kx_dd d_Do_isOfNation 42 rfl) (Nat.le_refl _) (Nat.le_refl _) ?_
            rw [f1, nI_eq (by have := natF_le ho.1 (p := (cN D.2.2.1 c 0)) (day := lo) (kn := kn); omega) (by omega)] at c18
            rw [f1, nI_eq (by have := natF_le ho.1 (p := (cN D.2.2.1 c 0)) (day := (cN D.2.2.1 c 5)) (kn := kn); omega) (by omega)] at c49
            refine ⟨?_, rfl⟩
            have e9 : chnP D.1 (cN D.2.2.1 c 0) (cN D.2.2.1 c 1) lo (cN D.2.2.1 c 5) w kn ↔ natF D.1 (cN D.2.2.1 c 0) lo kn = (cN D.2.2.1 c 1) ∧ natF D.1 (cN D.2.2.1 c 0) (cN D.2.2.1 c 5) kn = (cN D.2.2.1 c 1) := by unfold chnP; rw [if_neg e60_0, if_neg e60_1, if_pos e60_2]
            rw [bP_c e9, bP_f (fun z => c18 z.1)]
          · skip
            refine kx_tableOut (pc := 60) (tgt := 110) (kx_dd d_Do_isOfNation 30 rfl) (by have y0 := lv_neT (a := 0) e60_0 (by decide); have y1 := lv_neT (a := 1) e60_1 (by decide); have y2 := lv_neT (a := 2) e60_2 (by decide); omega) rfl ?_
            refine kx_aload_n (pc := 110) (kx_dd d_Do_isOfNation 43 rfl) rfl rfl ?_
            refine kx_getR (pc := 111) (b := 14) fl_Do_21 (hs.k 39 rfl) rfl (hs.r 41 rfl) (kx_dd d_Do_isOfNation 44 rfl) ?_
            refine kx_aload_n (pc := 114) (kx_dd d_Do_isOfNation 45 rfl) rfl rfl ?_
            refine kx_getI (pc := 115) fl_Do_120 (by rw [hcc.2.2.1]) rfl (kx_dd d_Do_isOfNation 46 rfl) ?_
            refine kx_aload_n (pc := 118) (kx_dd d_Do_isOfNation 47 rfl) rfl rfl ?_
            refine kx_getI (pc := 119) fl_Do_127 (by rw [hcc.2.2.1]) rfl (kx_dd d_Do_isOfNation 48 rfl) ?_
            refine kx_iload_n (pc := 122) (kx_dd d_Do_isOfNation 49 rfl) rfl rfl ?_
            refine kx_aload_n (pc := 123) (kx_dd d_Do_isOfNation 50 rfl) rfl rfl ?_
            refine kx_getI (pc := 124) fl_Do_92 (by rw [hcc.2.2.1]) rfl (kx_dd d_Do_isOfNation 51 rfl) ?_
            refine kx_iload (pc := 127) (kx_dd d_Do_isOfNation 52 rfl) rfl ?_
            rw [f0, f1, f5]
            refine kx_invV (pc := 129) (a := 14) (as := [_, _, _, _, _]) (kx_dd d_Do_isOfNation 53 rfl) ⟨lk_Do_130, wi_Pe_isAlwaysOf, we_Pe_isAlwaysOf⟩ w_Pe_isAlwaysOf (hs.k 14 rfl) rfl rfl rfl rfl (Nat.le_of_ble_eq_true rfl) (x_Pe_isAlwaysOf (d := d) hs D.1 ho.1 hp.1 (cN D.2.2.1 c 0) (cN D.2.2.1 c 1) lo (cN D.2.2.1 c 5) kn (by omega) (by omega) hlo (by omega) hkn) (Nat.le_refl _) ⟨Nat.le_refl _, Nat.le_refl _⟩ (fun v h' hq => ?_)
            obtain ⟨rfl, he⟩ := hq
            rw [he]
            clear he
            refine kx_zret (pc := 132) rfl (nar_bP _) (kx_dd d_Do_isOfNation 54 rfl) (Nat.le_refl _) (Nat.le_refl _) ?_
            refine ⟨?_, rfl⟩
            have e9 : chnP D.1 (cN D.2.2.1 c 0) (cN D.2.2.1 c 1) lo (cN D.2.2.1 c 5) w kn ↔ alwP D.1 (cN D.2.2.1 c 0) (cN D.2.2.1 c 1) lo (cN D.2.2.1 c 5) kn := by unfold chnP; rw [if_neg e60_0, if_neg e60_1, if_neg e60_2]
            rw [bP_c e9]
    · refine kx_iconst (pc := 52) (v := 1) (kx_dd d_Do_isOfNation 25 rfl) rfl ?_
      refine kx_goto (pc := 53) (tgt := 57) (kx_dd d_Do_isOfNation 26 rfl) rfl ?_
      refine kx_istore_e (pc := 57) (lv' := [_, _, _, _, _, _, _]) (kx_dd d_Do_isOfNation 28 rfl) (Nat.le_of_ble_eq_true rfl) rfl ?_
      refine kx_iload_n (pc := 59) (kx_dd d_Do_isOfNation 29 rfl) rfl rfl ?_
      by_cases e60_0 : w = 0
      · refine kx_tableIn (pc := 60) (tgt := 88) (kx_dd d_Do_isOfNation 30 rfl) (by rw [e60_0] <;> decide) (by rw [e60_0] <;> decide) (by rw [e60_0] <;> rfl) rfl ?_
        refine kx_iload (pc := 88) (kx_dd d_Do_isOfNation 31 rfl) rfl ?_
        refine kx_zret (pc := 90) rfl rfl (kx_dd d_Do_isOfNation 32 rfl) (Nat.le_refl _) (Nat.le_refl _) ?_
        rw [f1, nI_eq (by have := natF_le ho.1 (p := (cN D.2.2.1 c 0)) (day := lo) (kn := kn); omega) (by omega)] at c18
        rw [f1, nI_eq (by have := natF_le ho.1 (p := (cN D.2.2.1 c 0)) (day := (cN D.2.2.1 c 5)) (kn := kn); omega) (by omega)] at c49
        refine ⟨?_, rfl⟩
        have e9 : chnP D.1 (cN D.2.2.1 c 0) (cN D.2.2.1 c 1) lo (cN D.2.2.1 c 5) w kn ↔ natF D.1 (cN D.2.2.1 c 0) lo kn = (cN D.2.2.1 c 1) := by unfold chnP; rw [if_pos e60_0]
        rw [bP_c e9, bP_f c18]
      · skip
        by_cases e60_1 : w = 1
        · refine kx_tableIn (pc := 60) (tgt := 91) (kx_dd d_Do_isOfNation 30 rfl) (by rw [e60_1] <;> decide) (by rw [e60_1] <;> decide) (by rw [e60_1] <;> rfl) rfl ?_
          refine kx_iload (pc := 91) (kx_dd d_Do_isOfNation 33 rfl) rfl ?_
          refine kx_zret (pc := 93) rfl rfl (kx_dd d_Do_isOfNation 34 rfl) (Nat.le_refl _) (Nat.le_refl _) ?_
          rw [f1, nI_eq (by have := natF_le ho.1 (p := (cN D.2.2.1 c 0)) (day := lo) (kn := kn); omega) (by omega)] at c18
          rw [f1, nI_eq (by have := natF_le ho.1 (p := (cN D.2.2.1 c 0)) (day := (cN D.2.2.1 c 5)) (kn := kn); omega) (by omega)] at c49
          refine ⟨?_, rfl⟩
          have e9 : chnP D.1 (cN D.2.2.1 c 0) (cN D.2.2.1 c 1) lo (cN D.2.2.1 c 5) w kn ↔ natF D.1 (cN D.2.2.1 c 0) (cN D.2.2.1 c 5) kn = (cN D.2.2.1 c 1) := by unfold chnP; rw [if_neg e60_0, if_pos e60_1]
          rw [bP_c e9, bP_t c49]
        · skip
          by_cases e60_2 : w = 2
          · refine kx_tableIn (pc := 60) (tgt := 94) (kx_dd d_Do_isOfNation 30 rfl) (by rw [e60_2] <;> decide) (by rw [e60_2] <;> decide) (by rw [e60_2] <;> rfl) rfl ?_
            refine kx_iload (pc := 94) (kx_dd d_Do_isOfNation 35 rfl) rfl ?_
            refine kx_if_eq (pc := 96) (tgt := 108) (kx_dd d_Do_isOfNation 36 rfl) rfl (fun _ => ?_) (fun c96 => absurd c96 (by decide))
            refine kx_iconst (pc := 108) (v := 0) (kx_dd d_Do_isOfNation 41 rfl) rfl ?_
            refine kx_zret (pc := 109) rfl rfl (kx_dd d_Do_isOfNation 42 rfl) (Nat.le_refl _) (Nat.le_refl _) ?_
            rw [f1, nI_eq (by have := natF_le ho.1 (p := (cN D.2.2.1 c 0)) (day := lo) (kn := kn); omega) (by omega)] at c18
            rw [f1, nI_eq (by have := natF_le ho.1 (p := (cN D.2.2.1 c 0)) (day := (cN D.2.2.1 c 5)) (kn := kn); omega) (by omega)] at c49
            refine ⟨?_, rfl⟩
            have e9 : chnP D.1 (cN D.2.2.1 c 0) (cN D.2.2.1 c 1) lo (cN D.2.2.1 c 5) w kn ↔ natF D.1 (cN D.2.2.1 c 0) lo kn = (cN D.2.2.1 c 1) ∧ natF D.1 (cN D.2.2.1 c 0) (cN D.2.2.1 c 5) kn = (cN D.2.2.1 c 1) := by unfold chnP; rw [if_neg e60_0, if_neg e60_1, if_pos e60_2]
            rw [bP_c e9, bP_f (fun z => c18 z.1)]
          · skip
            refine kx_tableOut (pc := 60) (tgt := 110) (kx_dd d_Do_isOfNation 30 rfl) (by have y0 := lv_neT (a := 0) e60_0 (by decide); have y1 := lv_neT (a := 1) e60_1 (by decide); have y2 := lv_neT (a := 2) e60_2 (by decide); omega) rfl ?_
            refine kx_aload_n (pc := 110) (kx_dd d_Do_isOfNation 43 rfl) rfl rfl ?_
            refine kx_getR (pc := 111) (b := 14) fl_Do_21 (hs.k 39 rfl) rfl (hs.r 41 rfl) (kx_dd d_Do_isOfNation 44 rfl) ?_
            refine kx_aload_n (pc := 114) (kx_dd d_Do_isOfNation 45 rfl) rfl rfl ?_
            refine kx_getI (pc := 115) fl_Do_120 (by rw [hcc.2.2.1]) rfl (kx_dd d_Do_isOfNation 46 rfl) ?_
            refine kx_aload_n (pc := 118) (kx_dd d_Do_isOfNation 47 rfl) rfl rfl ?_
            refine kx_getI (pc := 119) fl_Do_127 (by rw [hcc.2.2.1]) rfl (kx_dd d_Do_isOfNation 48 rfl) ?_
            refine kx_iload_n (pc := 122) (kx_dd d_Do_isOfNation 49 rfl) rfl rfl ?_
            refine kx_aload_n (pc := 123) (kx_dd d_Do_isOfNation 50 rfl) rfl rfl ?_
            refine kx_getI (pc := 124) fl_Do_92 (by rw [hcc.2.2.1]) rfl (kx_dd d_Do_isOfNation 51 rfl) ?_
            refine kx_iload (pc := 127) (kx_dd d_Do_isOfNation 52 rfl) rfl ?_
            rw [f0, f1, f5]
            refine kx_invV (pc := 129) (a := 14) (as := [_, _, _, _, _]) (kx_dd d_Do_isOfNation 53 rfl) ⟨lk_Do_130, wi_Pe_isAlwaysOf, we_Pe_isAlwaysOf⟩ w_Pe_isAlwaysOf (hs.k 14 rfl) rfl rfl rfl rfl (Nat.le_of_ble_eq_true rfl) (x_Pe_isAlwaysOf (d := d) hs D.1 ho.1 hp.1 (cN D.2.2.1 c 0) (cN D.2.2.1 c 1) lo (cN D.2.2.1 c 5) kn (by omega) (by omega) hlo (by omega) hkn) (Nat.le_refl _) ⟨Nat.le_refl _, Nat.le_refl _⟩ (fun v h' hq => ?_)
            obtain ⟨rfl, he⟩ := hq
            rw [he]
            clear he
            refine kx_zret (pc := 132) rfl (nar_bP _) (kx_dd d_Do_isOfNation 54 rfl) (Nat.le_refl _) (Nat.le_refl _) ?_
            refine ⟨?_, rfl⟩
            have e9 : chnP D.1 (cN D.2.2.1 c 0) (cN D.2.2.1 c 1) lo (cN D.2.2.1 c 5) w kn ↔ alwP D.1 (cN D.2.2.1 c 0) (cN D.2.2.1 c 1) lo (cN D.2.2.1 c 5) kn := by unfold chnP; rw [if_neg e60_0, if_neg e60_1, if_neg e60_2]
            rw [bP_c e9]
  · refine kx_iconst (pc := 21) (v := 1) (kx_dd d_Do_isOfNation 10 rfl) rfl ?_
    refine kx_goto (pc := 22) (tgt := 26) (kx_dd d_Do_isOfNation 11 rfl) rfl ?_
    refine kx_istore_e (pc := 26) (lv' := [_, _, _, _, _, _, _]) (kx_dd d_Do_isOfNation 13 rfl) (Nat.le_of_ble_eq_true rfl) rfl ?_
    refine kx_aload_n (pc := 28) (kx_dd d_Do_isOfNation 14 rfl) rfl rfl ?_
    refine kx_getR (pc := 29) (b := 14) fl_Do_21 (hs.k 39 rfl) rfl (hs.r 41 rfl) (kx_dd d_Do_isOfNation 15 rfl) ?_
    refine kx_aload_n (pc := 32) (kx_dd d_Do_isOfNation 16 rfl) rfl rfl ?_
    refine kx_getI (pc := 33) fl_Do_120 (by rw [hcc.2.2.1]) rfl (kx_dd d_Do_isOfNation 17 rfl) ?_
    refine kx_aload_n (pc := 36) (kx_dd d_Do_isOfNation 18 rfl) rfl rfl ?_
    refine kx_getI (pc := 37) fl_Do_92 (by rw [hcc.2.2.1]) rfl (kx_dd d_Do_isOfNation 19 rfl) ?_
    refine kx_iload (pc := 40) (kx_dd d_Do_isOfNation 20 rfl) rfl ?_
    rw [f0, f5]
    refine kx_invV (pc := 42) (a := 14) (as := [_, _, _]) (kx_dd d_Do_isOfNation 21 rfl) ⟨lk_Do_123, wi_Pe_nationFor, we_Pe_nationFor⟩ w_Pe_nationFor (hs.k 14 rfl) rfl rfl rfl rfl (Nat.le_of_ble_eq_true rfl) (x_Pe_nationFor (d := d + 1) hs D.1 ho.1 hp.1 (cN D.2.2.1 c 0) (cN D.2.2.1 c 5) kn (by omega) (by omega) hkn) (Nat.le_refl _) ⟨Nat.le_refl _, Nat.le_refl _⟩ (fun v h' hq => ?_)
    obtain ⟨rfl, he⟩ := hq
    rw [he]
    clear he
    refine kx_aload_n (pc := 45) (kx_dd d_Do_isOfNation 22 rfl) rfl rfl ?_
    refine kx_getI (pc := 46) fl_Do_127 (by rw [hcc.2.2.1]) rfl (kx_dd d_Do_isOfNation 23 rfl) ?_
    refine kx_icmp_ne (pc := 49) (tgt := 56) (kx_dd d_Do_isOfNation 24 rfl) rfl (fun c49 => ?_) (fun c49 => ?_)
    · refine kx_iconst (pc := 56) (v := 0) (kx_dd d_Do_isOfNation 27 rfl) rfl ?_
      refine kx_istore_e (pc := 57) (lv' := [_, _, _, _, _, _, _]) (kx_dd d_Do_isOfNation 28 rfl) (Nat.le_of_ble_eq_true rfl) rfl ?_
      refine kx_iload_n (pc := 59) (kx_dd d_Do_isOfNation 29 rfl) rfl rfl ?_
      by_cases e60_0 : w = 0
      · refine kx_tableIn (pc := 60) (tgt := 88) (kx_dd d_Do_isOfNation 30 rfl) (by rw [e60_0] <;> decide) (by rw [e60_0] <;> decide) (by rw [e60_0] <;> rfl) rfl ?_
        refine kx_iload (pc := 88) (kx_dd d_Do_isOfNation 31 rfl) rfl ?_
        refine kx_zret (pc := 90) rfl rfl (kx_dd d_Do_isOfNation 32 rfl) (Nat.le_refl _) (Nat.le_refl _) ?_
        rw [f1, nI_eq (by have := natF_le ho.1 (p := (cN D.2.2.1 c 0)) (day := lo) (kn := kn); omega) (by omega)] at c18
        rw [f1, nI_eq (by have := natF_le ho.1 (p := (cN D.2.2.1 c 0)) (day := (cN D.2.2.1 c 5)) (kn := kn); omega) (by omega)] at c49
        refine ⟨?_, rfl⟩
        have e9 : chnP D.1 (cN D.2.2.1 c 0) (cN D.2.2.1 c 1) lo (cN D.2.2.1 c 5) w kn ↔ natF D.1 (cN D.2.2.1 c 0) lo kn = (cN D.2.2.1 c 1) := by unfold chnP; rw [if_pos e60_0]
        rw [bP_c e9, bP_t c18]
      · skip
        by_cases e60_1 : w = 1
        · refine kx_tableIn (pc := 60) (tgt := 91) (kx_dd d_Do_isOfNation 30 rfl) (by rw [e60_1] <;> decide) (by rw [e60_1] <;> decide) (by rw [e60_1] <;> rfl) rfl ?_
          refine kx_iload (pc := 91) (kx_dd d_Do_isOfNation 33 rfl) rfl ?_
          refine kx_zret (pc := 93) rfl rfl (kx_dd d_Do_isOfNation 34 rfl) (Nat.le_refl _) (Nat.le_refl _) ?_
          rw [f1, nI_eq (by have := natF_le ho.1 (p := (cN D.2.2.1 c 0)) (day := lo) (kn := kn); omega) (by omega)] at c18
          rw [f1, nI_eq (by have := natF_le ho.1 (p := (cN D.2.2.1 c 0)) (day := (cN D.2.2.1 c 5)) (kn := kn); omega) (by omega)] at c49
          refine ⟨?_, rfl⟩
          have e9 : chnP D.1 (cN D.2.2.1 c 0) (cN D.2.2.1 c 1) lo (cN D.2.2.1 c 5) w kn ↔ natF D.1 (cN D.2.2.1 c 0) (cN D.2.2.1 c 5) kn = (cN D.2.2.1 c 1) := by unfold chnP; rw [if_neg e60_0, if_pos e60_1]
          rw [bP_c e9, bP_f c49]
        · skip
          by_cases e60_2 : w = 2
          · refine kx_tableIn (pc := 60) (tgt := 94) (kx_dd d_Do_isOfNation 30 rfl) (by rw [e60_2] <;> decide) (by rw [e60_2] <;> decide) (by rw [e60_2] <;> rfl) rfl ?_
            refine kx_iload (pc := 94) (kx_dd d_Do_isOfNation 35 rfl) rfl ?_
            refine kx_if_eq (pc := 96) (tgt := 108) (kx_dd d_Do_isOfNation 36 rfl) rfl (fun c96 => absurd c96 (by decide)) (fun _ => ?_)
            refine kx_iload (pc := 99) (kx_dd d_Do_isOfNation 37 rfl) rfl ?_
            refine kx_if_eq (pc := 101) (tgt := 108) (kx_dd d_Do_isOfNation 38 rfl) rfl (fun _ => ?_) (fun c101 => absurd c101 (by decide))
            refine kx_iconst (pc := 108) (v := 0) (kx_dd d_Do_isOfNation 41 rfl) rfl ?_
            refine kx_zret (pc := 109) rfl rfl (kx_dd d_Do_isOfNation 42 rfl) (Nat.le_refl _) (Nat.le_refl _) ?_
            rw [f1, nI_eq (by have := natF_le ho.1 (p := (cN D.2.2.1 c 0)) (day := lo) (kn := kn); omega) (by omega)] at c18
            rw [f1, nI_eq (by have := natF_le ho.1 (p := (cN D.2.2.1 c 0)) (day := (cN D.2.2.1 c 5)) (kn := kn); omega) (by omega)] at c49
            refine ⟨?_, rfl⟩
            have e9 : chnP D.1 (cN D.2.2.1 c 0) (cN D.2.2.1 c 1) lo (cN D.2.2.1 c 5) w kn ↔ natF D.1 (cN D.2.2.1 c 0) lo kn = (cN D.2.2.1 c 1) ∧ natF D.1 (cN D.2.2.1 c 0) (cN D.2.2.1 c 5) kn = (cN D.2.2.1 c 1) := by unfold chnP; rw [if_neg e60_0, if_neg e60_1, if_pos e60_2]
            rw [bP_c e9, bP_f (fun z => c49 z.2)]
          · skip
            refine kx_tableOut (pc := 60) (tgt := 110) (kx_dd d_Do_isOfNation 30 rfl) (by have y0 := lv_neT (a := 0) e60_0 (by decide); have y1 := lv_neT (a := 1) e60_1 (by decide); have y2 := lv_neT (a := 2) e60_2 (by decide); omega) rfl ?_
            refine kx_aload_n (pc := 110) (kx_dd d_Do_isOfNation 43 rfl) rfl rfl ?_
            refine kx_getR (pc := 111) (b := 14) fl_Do_21 (hs.k 39 rfl) rfl (hs.r 41 rfl) (kx_dd d_Do_isOfNation 44 rfl) ?_
            refine kx_aload_n (pc := 114) (kx_dd d_Do_isOfNation 45 rfl) rfl rfl ?_
            refine kx_getI (pc := 115) fl_Do_120 (by rw [hcc.2.2.1]) rfl (kx_dd d_Do_isOfNation 46 rfl) ?_
            refine kx_aload_n (pc := 118) (kx_dd d_Do_isOfNation 47 rfl) rfl rfl ?_
            refine kx_getI (pc := 119) fl_Do_127 (by rw [hcc.2.2.1]) rfl (kx_dd d_Do_isOfNation 48 rfl) ?_
            refine kx_iload_n (pc := 122) (kx_dd d_Do_isOfNation 49 rfl) rfl rfl ?_
            refine kx_aload_n (pc := 123) (kx_dd d_Do_isOfNation 50 rfl) rfl rfl ?_
            refine kx_getI (pc := 124) fl_Do_92 (by rw [hcc.2.2.1]) rfl (kx_dd d_Do_isOfNation 51 rfl) ?_
            refine kx_iload (pc := 127) (kx_dd d_Do_isOfNation 52 rfl) rfl ?_
            rw [f0, f1, f5]
            refine kx_invV (pc := 129) (a := 14) (as := [_, _, _, _, _]) (kx_dd d_Do_isOfNation 53 rfl) ⟨lk_Do_130, wi_Pe_isAlwaysOf, we_Pe_isAlwaysOf⟩ w_Pe_isAlwaysOf (hs.k 14 rfl) rfl rfl rfl rfl (Nat.le_of_ble_eq_true rfl) (x_Pe_isAlwaysOf (d := d) hs D.1 ho.1 hp.1 (cN D.2.2.1 c 0) (cN D.2.2.1 c 1) lo (cN D.2.2.1 c 5) kn (by omega) (by omega) hlo (by omega) hkn) (Nat.le_refl _) ⟨Nat.le_refl _, Nat.le_refl _⟩ (fun v h' hq => ?_)
            obtain ⟨rfl, he⟩ := hq
            rw [he]
            clear he
            refine kx_zret (pc := 132) rfl (nar_bP _) (kx_dd d_Do_isOfNation 54 rfl) (Nat.le_refl _) (Nat.le_refl _) ?_
            refine ⟨?_, rfl⟩
            have e9 : chnP D.1 (cN D.2.2.1 c 0) (cN D.2.2.1 c 1) lo (cN D.2.2.1 c 5) w kn ↔ alwP D.1 (cN D.2.2.1 c 0) (cN D.2.2.1 c 1) lo (cN D.2.2.1 c 5) kn := by unfold chnP; rw [if_neg e60_0, if_neg e60_1, if_neg e60_2]
            rw [bP_c e9]
    · refine kx_iconst (pc := 52) (v := 1) (kx_dd d_Do_isOfNation 25 rfl) rfl ?_
      refine kx_goto (pc := 53) (tgt := 57) (kx_dd d_Do_isOfNation 26 rfl) rfl ?_
      refine kx_istore_e (pc := 57) (lv' := [_, _, _, _, _, _, _]) (kx_dd d_Do_isOfNation 28 rfl) (Nat.le_of_ble_eq_true rfl) rfl ?_
      refine kx_iload_n (pc := 59) (kx_dd d_Do_isOfNation 29 rfl) rfl rfl ?_
      by_cases e60_0 : w = 0
      · refine kx_tableIn (pc := 60) (tgt := 88) (kx_dd d_Do_isOfNation 30 rfl) (by rw [e60_0] <;> decide) (by rw [e60_0] <;> decide) (by rw [e60_0] <;> rfl) rfl ?_
        refine kx_iload (pc := 88) (kx_dd d_Do_isOfNation 31 rfl) rfl ?_
        refine kx_zret (pc := 90) rfl rfl (kx_dd d_Do_isOfNation 32 rfl) (Nat.le_refl _) (Nat.le_refl _) ?_
        rw [f1, nI_eq (by have := natF_le ho.1 (p := (cN D.2.2.1 c 0)) (day := lo) (kn := kn); omega) (by omega)] at c18
        rw [f1, nI_eq (by have := natF_le ho.1 (p := (cN D.2.2.1 c 0)) (day := (cN D.2.2.1 c 5)) (kn := kn); omega) (by omega)] at c49
        refine ⟨?_, rfl⟩
        have e9 : chnP D.1 (cN D.2.2.1 c 0) (cN D.2.2.1 c 1) lo (cN D.2.2.1 c 5) w kn ↔ natF D.1 (cN D.2.2.1 c 0) lo kn = (cN D.2.2.1 c 1) := by unfold chnP; rw [if_pos e60_0]
        rw [bP_c e9, bP_t c18]
      · skip
        by_cases e60_1 : w = 1
        · refine kx_tableIn (pc := 60) (tgt := 91) (kx_dd d_Do_isOfNation 30 rfl) (by rw [e60_1] <;> decide) (by rw [e60_1] <;> decide) (by rw [e60_1] <;> rfl) rfl ?_
          refine kx_iload (pc := 91) (kx_dd d_Do_isOfNation 33 rfl) rfl ?_
          refine kx_zret (pc := 93) rfl rfl (kx_dd d_Do_isOfNation 34 rfl) (Nat.le_refl _) (Nat.le_refl _) ?_
          rw [f1, nI_eq (by have := natF_le ho.1 (p := (cN D.2.2.1 c 0)) (day := lo) (kn := kn); omega) (by omega)] at c18
          rw [f1, nI_eq (by have := natF_le ho.1 (p := (cN D.2.2.1 c 0)) (day := (cN D.2.2.1 c 5)) (kn := kn); omega) (by omega)] at c49
          refine ⟨?_, rfl⟩
          have e9 : chnP D.1 (cN D.2.2.1 c 0) (cN D.2.2.1 c 1) lo (cN D.2.2.1 c 5) w kn ↔ natF D.1 (cN D.2.2.1 c 0) (cN D.2.2.1 c 5) kn = (cN D.2.2.1 c 1) := by unfold chnP; rw [if_neg e60_0, if_pos e60_1]
          rw [bP_c e9, bP_t c49]
        · skip
          by_cases e60_2 : w = 2
          · refine kx_tableIn (pc := 60) (tgt := 94) (kx_dd d_Do_isOfNation 30 rfl) (by rw [e60_2] <;> decide) (by rw [e60_2] <;> decide) (by rw [e60_2] <;> rfl) rfl ?_
            refine kx_iload (pc := 94) (kx_dd d_Do_isOfNation 35 rfl) rfl ?_
            refine kx_if_eq (pc := 96) (tgt := 108) (kx_dd d_Do_isOfNation 36 rfl) rfl (fun c96 => absurd c96 (by decide)) (fun _ => ?_)
            refine kx_iload (pc := 99) (kx_dd d_Do_isOfNation 37 rfl) rfl ?_
            refine kx_if_eq (pc := 101) (tgt := 108) (kx_dd d_Do_isOfNation 38 rfl) rfl (fun c101 => absurd c101 (by decide)) (fun _ => ?_)
            refine kx_iconst (pc := 104) (v := 1) (kx_dd d_Do_isOfNation 39 rfl) rfl ?_
            refine kx_goto (pc := 105) (tgt := 109) (kx_dd d_Do_isOfNation 40 rfl) rfl ?_
            refine kx_zret (pc := 109) rfl rfl (kx_dd d_Do_isOfNation 42 rfl) (Nat.le_refl _) (Nat.le_refl _) ?_
            rw [f1, nI_eq (by have := natF_le ho.1 (p := (cN D.2.2.1 c 0)) (day := lo) (kn := kn); omega) (by omega)] at c18
            rw [f1, nI_eq (by have := natF_le ho.1 (p := (cN D.2.2.1 c 0)) (day := (cN D.2.2.1 c 5)) (kn := kn); omega) (by omega)] at c49
            refine ⟨?_, rfl⟩
            have e9 : chnP D.1 (cN D.2.2.1 c 0) (cN D.2.2.1 c 1) lo (cN D.2.2.1 c 5) w kn ↔ natF D.1 (cN D.2.2.1 c 0) lo kn = (cN D.2.2.1 c 1) ∧ natF D.1 (cN D.2.2.1 c 0) (cN D.2.2.1 c 5) kn = (cN D.2.2.1 c 1) := by unfold chnP; rw [if_neg e60_0, if_neg e60_1, if_pos e60_2]
            rw [bP_c e9, bP_t ⟨c18, c49⟩]
          · skip
            refine kx_tableOut (pc := 60) (tgt := 110) (kx_dd d_Do_isOfNation 30 rfl) (by have y0 := lv_neT (a := 0) e60_0 (by decide); have y1 := lv_neT (a := 1) e60_1 (by decide); have y2 := lv_neT (a := 2) e60_2 (by decide); omega) rfl ?_
            refine kx_aload_n (pc := 110) (kx_dd d_Do_isOfNation 43 rfl) rfl rfl ?_
            refine kx_getR (pc := 111) (b := 14) fl_Do_21 (hs.k 39 rfl) rfl (hs.r 41 rfl) (kx_dd d_Do_isOfNation 44 rfl) ?_
            refine kx_aload_n (pc := 114) (kx_dd d_Do_isOfNation 45 rfl) rfl rfl ?_
            refine kx_getI (pc := 115) fl_Do_120 (by rw [hcc.2.2.1]) rfl (kx_dd d_Do_isOfNation 46 rfl) ?_
            refine kx_aload_n (pc := 118) (kx_dd d_Do_isOfNation 47 rfl) rfl rfl ?_
            refine kx_getI (pc := 119) fl_Do_127 (by rw [hcc.2.2.1]) rfl (kx_dd d_Do_isOfNation 48 rfl) ?_
            refine kx_iload_n (pc := 122) (kx_dd d_Do_isOfNation 49 rfl) rfl rfl ?_
            refine kx_aload_n (pc := 123) (kx_dd d_Do_isOfNation 50 rfl) rfl rfl ?_
            refine kx_getI (pc := 124) fl_Do_92 (by rw [hcc.2.2.1]) rfl (kx_dd d_Do_isOfNation 51 rfl) ?_
            refine kx_iload (pc := 127) (kx_dd d_Do_isOfNation 52 rfl) rfl ?_
            rw [f0, f1, f5]
            refine kx_invV (pc := 129) (a := 14) (as := [_, _, _, _, _]) (kx_dd d_Do_isOfNation 53 rfl) ⟨lk_Do_130, wi_Pe_isAlwaysOf, we_Pe_isAlwaysOf⟩ w_Pe_isAlwaysOf (hs.k 14 rfl) rfl rfl rfl rfl (Nat.le_of_ble_eq_true rfl) (x_Pe_isAlwaysOf (d := d) hs D.1 ho.1 hp.1 (cN D.2.2.1 c 0) (cN D.2.2.1 c 1) lo (cN D.2.2.1 c 5) kn (by omega) (by omega) hlo (by omega) hkn) (Nat.le_refl _) ⟨Nat.le_refl _, Nat.le_refl _⟩ (fun v h' hq => ?_)
            obtain ⟨rfl, he⟩ := hq
            rw [he]
            clear he
            refine kx_zret (pc := 132) rfl (nar_bP _) (kx_dd d_Do_isOfNation 54 rfl) (Nat.le_refl _) (Nat.le_refl _) ?_
            refine ⟨?_, rfl⟩
            have e9 : chnP D.1 (cN D.2.2.1 c 0) (cN D.2.2.1 c 1) lo (cN D.2.2.1 c 5) w kn ↔ alwP D.1 (cN D.2.2.1 c 0) (cN D.2.2.1 c 1) lo (cN D.2.2.1 c 5) kn := by unfold chnP; rw [if_neg e60_0, if_neg e60_1, if_neg e60_2]
            rw [bP_c e9]
