/-! rules: what they are; the class: Rules at an address a -/
/-- rules: settings, order, kinds (how many, words, weights), needs (how many, words, points), demands (either?, word, kinds) -/
abbrev RU : Type := (Nat → Int32) × (Nat → Nat) × Nat × (Nat → Nat) × (Nat → Nat) × Nat × (Nat → Nat) × (Nat → Nat) × List (Bool × Nat × Nat × Nat)
abbrev ruS (r : RU) : Nat → Int32 := r.1
abbrev ruO (r : RU) : Nat → Nat := r.2.1
abbrev ruK (r : RU) : Nat := r.2.2.1
abbrev ruKW (r : RU) : Nat → Nat := r.2.2.2.1
abbrev ruWT (r : RU) : Nat → Nat := r.2.2.2.2.1
abbrev ruN (r : RU) : Nat := r.2.2.2.2.2.1
abbrev ruNW (r : RU) : Nat → Nat := r.2.2.2.2.2.2.1
abbrev ruNP (r : RU) : Nat → Nat := r.2.2.2.2.2.2.2.1
abbrev ruD (r : RU) : List (Bool × Nat × Nat × Nat) := r.2.2.2.2.2.2.2.2
def ruM (r : RU) : List (Bool × Nat × Nat × Nat) := (ruD r).filter (fun x => !x.1)
def ruE (r : RU) : List (Bool × Nat × Nat × Nat) := (ruD r).filter (fun x => x.1)
theorem filt_len {α : Type} (q : α → Bool) : ∀ L : List α, (L.filter (fun x => !q x)).length + (L.filter q).length = L.length
  | [] => rfl
  | x :: L => by
    have := filt_len q L
    cases h : q x <;> simp [h] <;> omega
theorem ruD_len (r : RU) : (ruM r).length + (ruE r).length = (ruD r).length := filt_len (fun x : Bool × Nat × Nat × Nat => x.1) (ruD r)
def msk (x : Bool × Nat × Nat × Nat) : Nat := 2 ^ x.2.2.1 ||| 2 ^ x.2.2.2
def RUok (r : RU) : Prop := ruK r ≤ 16 ∧ (∀ k, k < ruK r → ruKW r k < 2 ^ 60 ∧ ruWT r k ≤ 99) ∧ ruN r ≤ 10 ∧ (∀ k, k < ruN r → ruNW r k < 2 ^ 60 ∧ ruNP r k ≤ 999) ∧ (ruM r).length ≤ 10 ∧ (ruE r).length ≤ 10 ∧ (∀ x ∈ ruD r, x.2.1 < 2 ^ 60 ∧ x.2.2.1 < ruK r ∧ x.2.2.2 < ruK r ∧ (x.1 = false → x.2.2.1 = x.2.2.2)) ∧ (∀ k, k < 4 → ruO r k < 4)
/-- such an object of the class -/
def isRuA (a : Nat) : Prop := a = 4 ∨ a = 48 ∨ a = 57 ∨ a = 66 ∨ a = 75
def IsRu (h : kx_Mem) (a : Nat) : Prop := h.2.2.2.1 a = (8, 0) ∧ h.2.2.2.1 (a + 1) = (50, 11) ∧ h.2.2.2.1 (a + 2) = (50, 4) ∧ h.2.2.2.1 (a + 3) = (51, 16) ∧ h.2.2.2.1 (a + 4) = (50, 16) ∧ h.2.2.2.1 (a + 5) = (51, 10) ∧ h.2.2.2.1 (a + 6) = (50, 10) ∧ h.2.2.2.1 (a + 7) = (51, 20) ∧ h.2.2.2.1 (a + 8) = (50, 20) ∧
  h.2.2.1 a 0 = some (a + 1) ∧ h.2.2.1 a 1 = some (a + 2) ∧ h.2.2.1 a 3 = some (a + 3) ∧ h.2.2.1 a 4 = some (a + 4) ∧ h.2.2.1 a 6 = some (a + 5) ∧ h.2.2.1 a 7 = some (a + 6) ∧ h.2.2.1 a 10 = some (a + 7) ∧ h.2.2.1 a 11 = some (a + 8) ∧ a < 100
theorem IsRu.of {h : kx_Mem} (hs : SC h) {a : Nat} (ha : isRuA a) : IsRu h a := by
  rcases ha with rfl | rfl | rfl | rfl | rfl
  · exact ⟨hs.t 4 rfl, hs.t 5 rfl, hs.t 6 rfl, hs.t 7 rfl, hs.t 8 rfl, hs.t 9 rfl, hs.t 10 rfl, hs.t 11 rfl, hs.t 12 rfl, hs.r 11 rfl, hs.r 12 rfl, hs.r 13 rfl, hs.r 14 rfl, hs.r 15 rfl, hs.r 16 rfl, hs.r 17 rfl, hs.r 18 rfl, by decide⟩
  · exact ⟨hs.t 48 rfl, hs.t 49 rfl, hs.t 50 rfl, hs.t 51 rfl, hs.t 52 rfl, hs.t 53 rfl, hs.t 54 rfl, hs.t 55 rfl, hs.t 56 rfl, hs.r 51 rfl, hs.r 52 rfl, hs.r 53 rfl, hs.r 54 rfl, hs.r 55 rfl, hs.r 56 rfl, hs.r 57 rfl, hs.r 58 rfl, by decide⟩
  · exact ⟨hs.t 57 rfl, hs.t 58 rfl, hs.t 59 rfl, hs.t 60 rfl, hs.t 61 rfl, hs.t 62 rfl, hs.t 63 rfl, hs.t 64 rfl, hs.t 65 rfl, hs.r 59 rfl, hs.r 60 rfl, hs.r 61 rfl, hs.r 62 rfl, hs.r 63 rfl, hs.r 64 rfl, hs.r 65 rfl, hs.r 66 rfl, by decide⟩
  · exact ⟨hs.t 66 rfl, hs.t 67 rfl, hs.t 68 rfl, hs.t 69 rfl, hs.t 70 rfl, hs.t 71 rfl, hs.t 72 rfl, hs.t 73 rfl, hs.t 74 rfl, hs.r 67 rfl, hs.r 68 rfl, hs.r 69 rfl, hs.r 70 rfl, hs.r 71 rfl, hs.r 72 rfl, hs.r 73 rfl, hs.r 74 rfl, by decide⟩
  · exact ⟨hs.t 75 rfl, hs.t 76 rfl, hs.t 77 rfl, hs.t 78 rfl, hs.t 79 rfl, hs.t 80 rfl, hs.t 81 rfl, hs.t 82 rfl, hs.t 83 rfl, hs.r 75 rfl, hs.r 76 rfl, hs.r 77 rfl, hs.r 78 rfl, hs.r 79 rfl, hs.r 80 rfl, hs.r 81 rfl, hs.r 82 rfl, by decide⟩
def RUc (r : RU) (a : Nat) (h : kx_Mem) : Prop :=
  (∀ k, k < 11 → h.1 (a + 1) k = ruS r k) ∧ (∀ k, k < 4 → h.1 (a + 2) k = nI (ruO r k)) ∧ h.1 a 2 = nI (ruK r) ∧ (∀ k, k < ruK r → h.2.1 (a + 3) k = lN (ruKW r k) ∧ h.1 (a + 4) k = nI (ruWT r k)) ∧ h.1 a 5 = nI (ruN r) ∧ (∀ k, k < ruN r → h.2.1 (a + 5) k = lN (ruNW r k) ∧ h.1 (a + 6) k = nI (ruNP r k)) ∧
  h.1 a 8 = nI (ruM r).length ∧ h.1 a 9 = nI (ruE r).length ∧ ∀ i x, (ruD r)[i]? = some x → h.2.1 (a + 7) i = lN x.2.1 ∧ h.1 (a + 8) i = nI (msk x)
/-- the first that is so -/
def fnd (q : Nat → Bool) (n : Nat) : Option Nat := (List.range n).find? q
theorem fnd_some {q : Nat → Bool} {n k : Nat} (hk : k < n) (h : q k = true) (h0 : ∀ j, j < k → ¬ q j = true) : fnd q n = some k := by
  unfold fnd
  rw [List.find?_range_eq_some]
  exact ⟨h, List.mem_range.mpr hk, fun j hj => by simpa using h0 j hj⟩
theorem fnd_none {q : Nat → Bool} {n : Nat} (h0 : ∀ j, j < n → ¬ q j = true) : fnd q n = none := by
  unfold fnd
  rw [List.find?_range_eq_none]
  intro j hj
  simpa using h0 j hj
theorem fnd_lt {q : Nat → Bool} {n k : Nat} (h : fnd q n = some k) : k < n ∧ q k = true ∧ ∀ j, j < k → ¬ q j = true := by
  unfold fnd at h
  rw [List.find?_range_eq_some] at h
  exact ⟨List.mem_range.mp h.2.1, h.1, fun j hj => by have := h.2.2 j hj; simpa using this⟩
def oI (o : Option Nat) : Int32 := match o with
  | none => -1
  | some k => nI k
theorem oI_n {o : Option Nat} (h : ∀ k, o = some k → k < 2 ^ 31) : oI o = -1 ↔ o = none := by
  cases o with
  | none => simp [oI]
  | some k =>
    simp only [oI, reduceCtorEq, iff_false]
    intro e
    have := nI_pos' (h k rfl)
    rw [e] at this
    exact absurd this (by decide)
def kiF (r : RU) (w : Nat) : Option Nat := fnd (fun k => decide (ruKW r k = w)) (ruK r)
def neF (r : RU) (w : Nat) : Option Nat := fnd (fun k => decide (ruNW r k = w)) (ruN r)
def nedF (r : RU) (w : Nat) : Nat := match neF r w with
  | none => 10
  | some k => ruNP r k
theorem nedF_le {r : RU} (ho : RUok r) (w : Nat) : nedF r w ≤ 999 := by
  unfold nedF
  split
  · decide
  next k e => exact (ho.2.2.2.1 k (fnd_lt e).1).2
def bitN (m k : Nat) : Nat := m / 2 ^ k % 2
def ptK (r : RU) (m : Nat) : Nat → Nat
  | 0 => 0
  | k + 1 => ptK r m k + bitN m k * ruWT r k
def ptF (r : RU) (m : Nat) : Nat := ptK r m (ruK r)
theorem bitN_le (m k : Nat) : bitN m k ≤ 1 := by unfold bitN; omega
theorem ptK_le {r : RU} (ho : RUok r) (m : Nat) : ∀ k, k ≤ ruK r → ptK r m k ≤ 99 * k
  | 0, _ => Nat.le_refl _
  | k + 1, hk => by
    have h1 := ptK_le ho m k (by omega)
    have h2 := (ho.2.1 k (by omega)).2
    have h3 := bitN_le m k
    unfold ptK
    have : bitN m k * ruWT r k ≤ 1 * 99 := Nat.mul_le_mul h3 h2
    omega
theorem ptF_le {r : RU} (ho : RUok r) (m : Nat) : ptF r m ≤ 1584 := by
  have := ptK_le ho m (ruK r) (Nat.le_refl _)
  have := ho.1
  unfold ptF
  omega
def metP (r : RU) (w m : Nat) : Prop := ∀ x ∈ ruD r, x.2.1 = w → msk x &&& m ≠ 0
def shoP (r : RU) (w m : Nat) : Prop := nedF r w ≤ ptF r m ∧ metP r w m
theorem sh31 : ∀ k, k < 32 → ((nI k &&& 31).toBitVec.smod 32).toNat = k := by decide
theorem nI_bit {m k : Nat} (hm : m < 2 ^ 31) (hk : k < 32) : (nI m >>> (nI k &&& 31)) &&& 1 = nI (bitN m k) := by
  rw [pk_shrN hm _ k (sh31 k hk), show (1 : Int32) = nI 1 from rfl, nI_and]
  congr 1
  exact Nat.and_one_is_mod _
theorem nI_pow {k : Nat} (hk : k < 31) : (1 : Int32) <<< (nI k &&& 31) = nI (2 ^ k) := by
  have := pk_shlN (n := 1) (nI k &&& 31) k (sh31 k (by omega)) (by
    have : 2 ^ k < 2 ^ 32 := Nat.pow_lt_pow_right (by decide) (by omega)
    omega)
  rw [Nat.one_mul] at this
  exact this
theorem lcmp0 {a b : Nat} (ha : a < 2 ^ 60) (hb : b < 2 ^ 60) : lg_cmp (lN a) (lN b) = 0 ↔ a = b := by
  have h1 := lg_cmp_le (lN a) (lN b)
  have h2 := lg_cmp_ge (lN a) (lN b)
  rw [pk_lLE (by omega) (by omega)] at h1 h2
  constructor
  · intro e
    rw [e] at h1 h2
    have := h1.mp (by decide)
    have := h2.mp (by decide)
    omega
  · intro e
    exact Int32.le_antisymm (h1.mpr (by omega)) (h2.mpr (by omega))
theorem x_Ru_kindOf_loop {l : Launch} {g : kx_G} {d : Nat} {h : kx_Mem} (a : Nat) (hr : IsRu h a) (r : RU) (ho : RUok r) (hp : RUc r a h) (w : Nat) (hw : w < 2 ^ 60) : ∀ n k, k + n = (ruK r) → (∀ j, j < k → ¬ decide (ruKW r j = w) = true) → kx_X (l, g, m_Ru_kindOf, d, 0, 0, (fun v h' => v = some (.int (oI (kiF r w))) ∧ h' = h)) 0 0 2 [some (.ref a), some (.long (lN w)), none, some (.int (nI k))] [] (h) := by
  intro n
  induction n with
  | zero =>
    intro k hk hno
    have hk0 : k = (ruK r) := by omega
    subst hk0
    have o16 := ho.1
    have o10 := ho.2.2.1
    have oa := hr.2.2.2.2.2.2.2.2.2.2.2.2.2.2.2.2.2
    refine kx_iload_n (pc := 2) (kx_dd d_Ru_kindOf 2 rfl) rfl rfl ?_
    refine kx_aload_n (pc := 3) (kx_dd d_Ru_kindOf 3 rfl) rfl rfl ?_
    refine kx_getI (pc := 4) fl_Ru_40 (by rw [hr.1]) rfl (kx_dd d_Ru_kindOf 4 rfl) ?_
    refine kx_icmp_ge (pc := 7) (tgt := 29) (kx_dd d_Ru_kindOf 5 rfl) rfl (fun c7 => ?_) (fun c7 => ?_)
    · refine kx_iconst (pc := 29) (v := -1) (kx_dd d_Ru_kindOf 17 rfl) rfl ?_
      refine kx_iret (pc := 30) rfl (kx_dd d_Ru_kindOf 18 rfl) (Nat.le_refl _) (Nat.le_refl _) ?_
      exact ⟨by unfold kiF; rw [fnd_none hno]; rfl, rfl⟩
    · exact absurd (by rw [hp.2.2.1]; exact Int32.le_refl _) c7
  | succ n ih =>
    intro k hk hno
    have o16 := ho.1
    have o10 := ho.2.2.1
    have oa := hr.2.2.2.2.2.2.2.2.2.2.2.2.2.2.2.2.2
    have q1 := (hp.2.2.2.1 k (by omega)).1
    have o1 := (ho.2.1 k (by omega)).1
    refine kx_iload_n (pc := 2) (kx_dd d_Ru_kindOf 2 rfl) rfl rfl ?_
    refine kx_aload_n (pc := 3) (kx_dd d_Ru_kindOf 3 rfl) rfl rfl ?_
    refine kx_getI (pc := 4) fl_Ru_40 (by rw [hr.1]) rfl (kx_dd d_Ru_kindOf 4 rfl) ?_
    refine kx_icmp_ge (pc := 7) (tgt := 29) (kx_dd d_Ru_kindOf 5 rfl) rfl (fun c7 => ?_) (fun c7 => ?_)
    · exact absurd c7 (by rw [hp.2.2.1]; exact nI_ge (by omega) (by omega))
    · refine kx_aload_n (pc := 10) (kx_dd d_Ru_kindOf 6 rfl) rfl rfl ?_
      refine kx_getR (pc := 11) (b := (a + 3)) fl_Ru_18 (by rw [hr.1]) rfl (hr.2.2.2.2.2.2.2.2.2.2.2.1) (kx_dd d_Ru_kindOf 7 rfl) ?_
      refine kx_iload_n (pc := 14) (kx_dd d_Ru_kindOf 8 rfl) rfl rfl ?_
      refine kx_laldn (pc := 15) k (hr.2.2.2.1) rfl (by omega) (by decide) (kx_dd d_Ru_kindOf 9 rfl) ?_
      refine kx_lload_n (pc := 16) (kx_dd d_Ru_kindOf 10 rfl) rfl rfl ?_
      refine kx_lcmp (pc := 17) (kx_dd d_Ru_kindOf 11 rfl) ?_
      refine kx_if_ne (pc := 18) (tgt := 23) (kx_dd d_Ru_kindOf 12 rfl) rfl (fun c18 => ?_) (fun c18 => ?_)
      · refine kx_iinc_e (pc := 23) (v := nI (k + 1)) (lv' := [_, _, _, _]) (kx_dd d_Ru_kindOf 15 rfl) rfl (Nat.le_of_ble_eq_true rfl) (nI_1 k) rfl ?_
        refine kx_goto (pc := 26) (tgt := 2) (kx_dd d_Ru_kindOf 16 rfl) rfl ?_
        rw [q1, lcmp0 o1 hw] at c18
        exact ih (k + 1) (by omega) (fun j hj => by
          rcases Nat.lt_succ_iff_lt_or_eq.mp hj with z | rfl
          · exact hno j z
          · simpa using c18)
      · refine kx_iload_n (pc := 21) (kx_dd d_Ru_kindOf 13 rfl) rfl rfl ?_
        refine kx_iret (pc := 22) rfl (kx_dd d_Ru_kindOf 14 rfl) (Nat.le_refl _) (Nat.le_refl _) ?_
        rw [q1, lcmp0 o1 hw] at c18
        exact ⟨by unfold kiF; rw [fnd_some (show k < _ by omega) (by simpa using c18) hno]; rfl, rfl⟩
theorem x_Ru_kindOf {l : Launch} {g : kx_G} {d : Nat} {h : kx_Mem} (a : Nat) (hr : IsRu h a) (r : RU) (ho : RUok r) (hp : RUc r a h) (w : Nat) (hw : w < 2 ^ 60) : kx_Sp l g m_Ru_kindOf [.ref a, .long (lN w)] h (d) 0 0 (fun v h' => v = some (.int (oI (kiF r w))) ∧ h' = h) := by
  refine kx_enter_e (lv := [_, _, _, _]) (by decide +kernel) (Nat.le_of_ble_eq_true rfl) rfl ?_
  refine kx_iconst (pc := 0) (v := 0) (kx_dd d_Ru_kindOf 0 rfl) rfl ?_
  refine kx_istore_ne (pc := 1) (lv' := [_, _, _, _]) (kx_dd d_Ru_kindOf 1 rfl) rfl (Nat.le_of_ble_eq_true rfl) rfl ?_
  exact x_Ru_kindOf_loop a hr r ho hp w hw (ruK r) 0 (by omega) (fun j hj => absurd hj (Nat.not_lt_zero j))
theorem x_Ru_needIndex_loop {l : Launch} {g : kx_G} {d : Nat} {h : kx_Mem} (a : Nat) (hr : IsRu h a) (r : RU) (ho : RUok r) (hp : RUc r a h) (w : Nat) (hw : w < 2 ^ 60) : ∀ n k, k + n = (ruN r) → (∀ j, j < k → ¬ decide (ruNW r j = w) = true) → kx_X (l, g, m_Ru_needIndex, d, 0, 0, (fun v h' => v = some (.int (oI (neF r w))) ∧ h' = h)) 0 0 2 [some (.ref a), some (.long (lN w)), none, some (.int (nI k))] [] (h) := by
  intro n
  induction n with
  | zero =>
    intro k hk hno
    have hk0 : k = (ruN r) := by omega
    subst hk0
    have o16 := ho.1
    have o10 := ho.2.2.1
    have oa := hr.2.2.2.2.2.2.2.2.2.2.2.2.2.2.2.2.2
    refine kx_iload_n (pc := 2) (kx_dd d_Ru_needIndex 2 rfl) rfl rfl ?_
    refine kx_aload_n (pc := 3) (kx_dd d_Ru_needIndex 3 rfl) rfl rfl ?_
    refine kx_getI (pc := 4) fl_Ru_44 (by rw [hr.1]) rfl (kx_dd d_Ru_needIndex 4 rfl) ?_
    refine kx_icmp_ge (pc := 7) (tgt := 29) (kx_dd d_Ru_needIndex 5 rfl) rfl (fun c7 => ?_) (fun c7 => ?_)
    · refine kx_iconst (pc := 29) (v := -1) (kx_dd d_Ru_needIndex 17 rfl) rfl ?_
      refine kx_iret (pc := 30) rfl (kx_dd d_Ru_needIndex 18 rfl) (Nat.le_refl _) (Nat.le_refl _) ?_
      exact ⟨by unfold neF; rw [fnd_none hno]; rfl, rfl⟩
    · exact absurd (by rw [hp.2.2.2.2.1]; exact Int32.le_refl _) c7
  | succ n ih =>
    intro k hk hno
    have o16 := ho.1
    have o10 := ho.2.2.1
    have oa := hr.2.2.2.2.2.2.2.2.2.2.2.2.2.2.2.2.2
    have q1 := (hp.2.2.2.2.2.1 k (by omega)).1
    have o1 := (ho.2.2.2.1 k (by omega)).1
    refine kx_iload_n (pc := 2) (kx_dd d_Ru_needIndex 2 rfl) rfl rfl ?_
    refine kx_aload_n (pc := 3) (kx_dd d_Ru_needIndex 3 rfl) rfl rfl ?_
    refine kx_getI (pc := 4) fl_Ru_44 (by rw [hr.1]) rfl (kx_dd d_Ru_needIndex 4 rfl) ?_
    refine kx_icmp_ge (pc := 7) (tgt := 29) (kx_dd d_Ru_needIndex 5 rfl) rfl (fun c7 => ?_) (fun c7 => ?_)
    · exact absurd c7 (by rw [hp.2.2.2.2.1]; exact nI_ge (by omega) (by omega))
    · refine kx_aload_n (pc := 10) (kx_dd d_Ru_needIndex 6 rfl) rfl rfl ?_
      refine kx_getR (pc := 11) (b := (a + 5)) fl_Ru_25 (by rw [hr.1]) rfl (hr.2.2.2.2.2.2.2.2.2.2.2.2.2.1) (kx_dd d_Ru_needIndex 7 rfl) ?_
      refine kx_iload_n (pc := 14) (kx_dd d_Ru_needIndex 8 rfl) rfl rfl ?_
      refine kx_laldn (pc := 15) k (hr.2.2.2.2.2.1) rfl (by omega) (by decide) (kx_dd d_Ru_needIndex 9 rfl) ?_
      refine kx_lload_n (pc := 16) (kx_dd d_Ru_needIndex 10 rfl) rfl rfl ?_
      refine kx_lcmp (pc := 17) (kx_dd d_Ru_needIndex 11 rfl) ?_
      refine kx_if_ne (pc := 18) (tgt := 23) (kx_dd d_Ru_needIndex 12 rfl) rfl (fun c18 => ?_) (fun c18 => ?_)
      · refine kx_iinc_e (pc := 23) (v := nI (k + 1)) (lv' := [_, _, _, _]) (kx_dd d_Ru_needIndex 15 rfl) rfl (Nat.le_of_ble_eq_true rfl) (nI_1 k) rfl ?_
        refine kx_goto (pc := 26) (tgt := 2) (kx_dd d_Ru_needIndex 16 rfl) rfl ?_
        rw [q1, lcmp0 o1 hw] at c18
        exact ih (k + 1) (by omega) (fun j hj => by
          rcases Nat.lt_succ_iff_lt_or_eq.mp hj with z | rfl
          · exact hno j z
          · simpa using c18)
      · refine kx_iload_n (pc := 21) (kx_dd d_Ru_needIndex 13 rfl) rfl rfl ?_
        refine kx_iret (pc := 22) rfl (kx_dd d_Ru_needIndex 14 rfl) (Nat.le_refl _) (Nat.le_refl _) ?_
        rw [q1, lcmp0 o1 hw] at c18
        exact ⟨by unfold neF; rw [fnd_some (show k < _ by omega) (by simpa using c18) hno]; rfl, rfl⟩
theorem x_Ru_needIndex {l : Launch} {g : kx_G} {d : Nat} {h : kx_Mem} (a : Nat) (hr : IsRu h a) (r : RU) (ho : RUok r) (hp : RUc r a h) (w : Nat) (hw : w < 2 ^ 60) : kx_Sp l g m_Ru_needIndex [.ref a, .long (lN w)] h (d) 0 0 (fun v h' => v = some (.int (oI (neF r w))) ∧ h' = h) := by
  refine kx_enter_e (lv := [_, _, _, _]) (by decide +kernel) (Nat.le_of_ble_eq_true rfl) rfl ?_
  refine kx_iconst (pc := 0) (v := 0) (kx_dd d_Ru_needIndex 0 rfl) rfl ?_
  refine kx_istore_ne (pc := 1) (lv' := [_, _, _, _]) (kx_dd d_Ru_needIndex 1 rfl) rfl (Nat.le_of_ble_eq_true rfl) rfl ?_
  exact x_Ru_needIndex_loop a hr r ho hp w hw (ruN r) 0 (by omega) (fun j hj => absurd hj (Nat.not_lt_zero j))
theorem x_Ru_needOf {l : Launch} {g : kx_G} {d : Nat} {h : kx_Mem} (a : Nat) (hr : IsRu h a) (r : RU) (ho : RUok r) (hp : RUc r a h) (w : Nat) (hw : w < 2 ^ 60) : kx_Sp l g m_Ru_needOf [.ref a, .long (lN w)] h (d + 1) 0 0 (fun v h' => v = some (.int (nI (nedF r w))) ∧ h' = h) := by
  have o16 := ho.1
  have o10 := ho.2.2.1
  have oa := hr.2.2.2.2.2.2.2.2.2.2.2.2.2.2.2.2.2
  have hlt : ∀ k, neF r w = some k → k < 10 := fun k e => Nat.lt_of_lt_of_le (fnd_lt e).1 o10
  refine kx_enter_e (lv := [_, _, _, _]) (by decide +kernel) (Nat.le_of_ble_eq_true rfl) rfl ?_
  refine kx_aload_n (pc := 0) (kx_dd d_Ru_needOf 0 rfl) rfl rfl ?_
  refine kx_lload_n (pc := 1) (kx_dd d_Ru_needOf 1 rfl) rfl rfl ?_
  refine kx_invV (pc := 2) (a := a) (as := [_]) (kx_dd d_Ru_needOf 2 rfl) ⟨lk_Ru_57, wi_Ru_needIndex, we_Ru_needIndex⟩ w_Ru_needIndex (by rw [hr.1]) rfl rfl rfl rfl (Nat.le_of_ble_eq_true rfl) (x_Ru_needIndex (d := d) a hr r ho hp w hw) (Nat.le_refl _) ⟨Nat.le_refl _, Nat.le_refl _⟩ (fun v h' hq => ?_)
  obtain ⟨rfl, he⟩ := hq
  rw [he]
  clear he
  refine kx_istore_ne (pc := 5) (lv' := [_, _, _, _]) (kx_dd d_Ru_needOf 3 rfl) rfl (Nat.le_of_ble_eq_true rfl) rfl ?_
  cases e : neF r w with
  | none =>
    show kx_X _ _ _ _ [_, _, _, some (.int (-1))] _ _
    refine kx_iload_n (pc := 6) (kx_dd d_Ru_needOf 4 rfl) rfl rfl ?_
    refine kx_iconst (pc := 7) (v := -1) (kx_dd d_Ru_needOf 5 rfl) rfl ?_
    refine kx_icmp_ne (pc := 8) (tgt := 16) (kx_dd d_Ru_needOf 6 rfl) rfl (fun c8 => absurd c8 (by decide)) (fun _ => ?_)
    refine kx_bipush (pc := 11) (v := 10) (kx_dd d_Ru_needOf 7 rfl) rfl ?_
    refine kx_goto (pc := 13) (tgt := 22) (kx_dd d_Ru_needOf 8 rfl) rfl ?_
    refine kx_iret (pc := 22) rfl (kx_dd d_Ru_needOf 13 rfl) (Nat.le_refl _) (Nat.le_refl _) ?_
    exact ⟨by unfold nedF; rw [e]; rfl, rfl⟩
  | some k =>
    show kx_X _ _ _ _ [_, _, _, some (.int (nI k))] _ _
    refine kx_iload_n (pc := 6) (kx_dd d_Ru_needOf 4 rfl) rfl rfl ?_
    refine kx_iconst (pc := 7) (v := -1) (kx_dd d_Ru_needOf 5 rfl) rfl ?_
    refine kx_icmp_ne (pc := 8) (tgt := 16) (kx_dd d_Ru_needOf 6 rfl) rfl (fun c8 => ?_) (fun c8 => ?_)
    · refine kx_aload_n (pc := 16) (kx_dd d_Ru_needOf 9 rfl) rfl rfl ?_
      refine kx_getR (pc := 17) (b := (a + 6)) fl_Ru_28 (by rw [hr.1]) rfl (hr.2.2.2.2.2.2.2.2.2.2.2.2.2.2.1) (kx_dd d_Ru_needOf 10 rfl) ?_
      refine kx_iload_n (pc := 20) (kx_dd d_Ru_needOf 11 rfl) rfl rfl ?_
      refine kx_ialdn (pc := 21) k (hr.2.2.2.2.2.2.1) rfl (hlt k e) (by decide) (kx_dd d_Ru_needOf 12 rfl) ?_
      refine kx_iret (pc := 22) rfl (kx_dd d_Ru_needOf 13 rfl) (Nat.le_refl _) (Nat.le_refl _) ?_
      exact ⟨by unfold nedF; rw [e, (hp.2.2.2.2.2.1 _ (fnd_lt e).1).2], rfl⟩
    · exact absurd c8 (by have := hlt k e; exact fun q => absurd ((oI_n (o := some k) (fun j z => by cases z; omega)).mp q) (by simp))
theorem x_Ru_pointsOf_loop {l : Launch} {g : kx_G} {d : Nat} {h : kx_Mem} (a : Nat) (hr : IsRu h a) (r : RU) (ho : RUok r) (hp : RUc r a h) (m : Nat) (hm : m < 2 ^ 31) : ∀ n k, k + n = (ruK r) →  kx_X (l, g, m_Ru_pointsOf, d, 0, 0, (fun v h' => v = some (.int (nI (ptF r m))) ∧ h' = h)) 0 0 4 [some (.ref a), some (.int (nI m)), some (.int (nI (ptK r m k))), some (.int (nI k))] [] (h) := by
  intro n
  induction n with
  | zero =>
    intro k hk 
    have hk0 : k = (ruK r) := by omega
    subst hk0
    have o16 := ho.1
    have o10 := ho.2.2.1
    have oa := hr.2.2.2.2.2.2.2.2.2.2.2.2.2.2.2.2.2
    refine kx_iload_n (pc := 4) (kx_dd d_Ru_pointsOf 4 rfl) rfl rfl ?_
    refine kx_aload_n (pc := 5) (kx_dd d_Ru_pointsOf 5 rfl) rfl rfl ?_
    refine kx_getI (pc := 6) fl_Ru_40 (by rw [hr.1]) rfl (kx_dd d_Ru_pointsOf 6 rfl) ?_
    refine kx_icmp_ge (pc := 9) (tgt := 35) (kx_dd d_Ru_pointsOf 7 rfl) rfl (fun c9 => ?_) (fun c9 => ?_)
    · refine kx_iload_n (pc := 35) (kx_dd d_Ru_pointsOf 23 rfl) rfl rfl ?_
      refine kx_iret (pc := 36) rfl (kx_dd d_Ru_pointsOf 24 rfl) (Nat.le_refl _) (Nat.le_refl _) ?_
      exact ⟨rfl, rfl⟩
    · exact absurd (by rw [hp.2.2.1]; exact Int32.le_refl _) c9
  | succ n ih =>
    intro k hk 
    have o16 := ho.1
    have o10 := ho.2.2.1
    have oa := hr.2.2.2.2.2.2.2.2.2.2.2.2.2.2.2.2.2
    have q1 := (hp.2.2.2.1 k (by omega)).2
    have o1 := ptK_le ho m k (by omega)
    have ob := bitN_le m k
    refine kx_iload_n (pc := 4) (kx_dd d_Ru_pointsOf 4 rfl) rfl rfl ?_
    refine kx_aload_n (pc := 5) (kx_dd d_Ru_pointsOf 5 rfl) rfl rfl ?_
    refine kx_getI (pc := 6) fl_Ru_40 (by rw [hr.1]) rfl (kx_dd d_Ru_pointsOf 6 rfl) ?_
    refine kx_icmp_ge (pc := 9) (tgt := 35) (kx_dd d_Ru_pointsOf 7 rfl) rfl (fun c9 => ?_) (fun c9 => ?_)
    · exact absurd c9 (by rw [hp.2.2.1]; exact nI_ge (by omega) (by omega))
    · refine kx_iload_n (pc := 12) (kx_dd d_Ru_pointsOf 8 rfl) rfl rfl ?_
      refine kx_iload_n (pc := 13) (kx_dd d_Ru_pointsOf 9 rfl) rfl rfl ?_
      refine kx_ishr (pc := 14) (kx_dd d_Ru_pointsOf 10 rfl) ?_
      refine kx_iconst (pc := 15) (v := 1) (kx_dd d_Ru_pointsOf 11 rfl) rfl ?_
      refine kx_iand (pc := 16) (kx_dd d_Ru_pointsOf 12 rfl) ?_
      refine kx_if_eq (pc := 17) (tgt := 29) (kx_dd d_Ru_pointsOf 13 rfl) rfl (fun c17 => ?_) (fun c17 => ?_)
      · refine kx_iinc_e (pc := 29) (v := nI (k + 1)) (lv' := [_, _, _, _]) (kx_dd d_Ru_pointsOf 21 rfl) rfl (Nat.le_of_ble_eq_true rfl) (nI_1 k) rfl ?_
        refine kx_goto (pc := 32) (tgt := 4) (kx_dd d_Ru_pointsOf 22 rfl) rfl ?_
        rw [nI_bit hm (by omega), nI_z (by omega)] at c17
        have e1 : ptK r m (k + 1) = ptK r m k := by show _ + bitN m k * _ = _; rw [c17]; omega
        have ih1 := ih (k + 1) (by omega)
        rw [e1] at ih1
        exact ih1
      · refine kx_iload_n (pc := 20) (kx_dd d_Ru_pointsOf 14 rfl) rfl rfl ?_
        refine kx_aload_n (pc := 21) (kx_dd d_Ru_pointsOf 15 rfl) rfl rfl ?_
        refine kx_getR (pc := 22) (b := (a + 4)) fl_Ru_22 (by rw [hr.1]) rfl (hr.2.2.2.2.2.2.2.2.2.2.2.2.1) (kx_dd d_Ru_pointsOf 16 rfl) ?_
        refine kx_iload_n (pc := 25) (kx_dd d_Ru_pointsOf 17 rfl) rfl rfl ?_
        refine kx_ialdn (pc := 26) k (hr.2.2.2.2.1) rfl (by omega) (by decide) (kx_dd d_Ru_pointsOf 18 rfl) ?_
        refine kx_iadd (pc := 27) (kx_dd d_Ru_pointsOf 19 rfl) ?_
        refine kx_istore_ne (pc := 28) (lv' := [_, _, _, _]) (kx_dd d_Ru_pointsOf 20 rfl) rfl (Nat.le_of_ble_eq_true rfl) rfl ?_
        refine kx_iinc_e (pc := 29) (v := nI (k + 1)) (lv' := [_, _, _, _]) (kx_dd d_Ru_pointsOf 21 rfl) rfl (Nat.le_of_ble_eq_true rfl) (nI_1 k) rfl ?_
        refine kx_goto (pc := 32) (tgt := 4) (kx_dd d_Ru_pointsOf 22 rfl) rfl ?_
        rw [nI_bit hm (by omega), nI_z (by omega)] at c17
        have e1 : ptK r m (k + 1) = ptK r m k + ruWT r k := by show _ + bitN m k * _ = _; rw [show bitN m k = 1 by omega]; omega
        have ih1 := ih (k + 1) (by omega)
        rw [e1] at ih1
        rw [q1, nI_add]
        exact ih1
theorem x_Ru_pointsOf {l : Launch} {g : kx_G} {d : Nat} {h : kx_Mem} (a : Nat) (hr : IsRu h a) (r : RU) (ho : RUok r) (hp : RUc r a h) (m : Nat) (hm : m < 2 ^ 31) : kx_Sp l g m_Ru_pointsOf [.ref a, .int (nI m)] h (d) 0 0 (fun v h' => v = some (.int (nI (ptF r m))) ∧ h' = h) := by
  refine kx_enter_e (lv := [_, _, _, _]) (by decide +kernel) (Nat.le_of_ble_eq_true rfl) rfl ?_
  refine kx_iconst (pc := 0) (v := 0) (kx_dd d_Ru_pointsOf 0 rfl) rfl ?_
  refine kx_istore_ne (pc := 1) (lv' := [_, _, _, _]) (kx_dd d_Ru_pointsOf 1 rfl) rfl (Nat.le_of_ble_eq_true rfl) rfl ?_
  refine kx_iconst (pc := 2) (v := 0) (kx_dd d_Ru_pointsOf 2 rfl) rfl ?_
  refine kx_istore_ne (pc := 3) (lv' := [_, _, _, _]) (kx_dd d_Ru_pointsOf 3 rfl) rfl (Nat.le_of_ble_eq_true rfl) rfl ?_
  exact x_Ru_pointsOf_loop a hr r ho hp m hm (ruK r) 0 (by omega)
theorem x_Ru_meets_loop {l : Launch} {g : kx_G} {d : Nat} {h : kx_Mem} (a : Nat) (hr : IsRu h a) (r : RU) (ho : RUok r) (hp : RUc r a h) (w m : Nat) (hw : w < 2 ^ 60) (hm : m < 2 ^ 31) : ∀ n k, k + n = (ruD r).length → (∀ j y, j < k → (ruD r)[j]? = some y → y.2.1 = w → msk y &&& m ≠ 0) → kx_X (l, g, m_Ru_meetsDemands, d, 0, 0, (fun v h' => v = some (.int (bP (metP r w m))) ∧ h' = h)) 0 0 3 [some (.ref a), some (.long (lN w)), none, some (.int (nI m)), some (.int (nI k))] [] (h) := by
  intro n
  induction n with
  | zero =>
    intro k hk hall
    have hk0 : k = (ruD r).length := by omega
    subst hk0
    have o16 := ho.1
    have o10 := ho.2.2.1
    have oa := hr.2.2.2.2.2.2.2.2.2.2.2.2.2.2.2.2.2
    have oD := ruD_len r
    have oM := ho.2.2.2.2.1
    have oE := ho.2.2.2.2.2.1
    refine kx_iload (pc := 3) (kx_dd d_Ru_meetsDemands 2 rfl) rfl ?_
    refine kx_aload_n (pc := 5) (kx_dd d_Ru_meetsDemands 3 rfl) rfl rfl ?_
    refine kx_getI (pc := 6) fl_Ru_47 (by rw [hr.1]) rfl (kx_dd d_Ru_meetsDemands 4 rfl) ?_
    refine kx_aload_n (pc := 9) (kx_dd d_Ru_meetsDemands 5 rfl) rfl rfl ?_
    refine kx_getI (pc := 10) fl_Ru_50 (by rw [hr.1]) rfl (kx_dd d_Ru_meetsDemands 6 rfl) ?_
    refine kx_iadd (pc := 13) (kx_dd d_Ru_meetsDemands 7 rfl) ?_
    refine kx_icmp_ge (pc := 14) (tgt := 49) (kx_dd d_Ru_meetsDemands 8 rfl) rfl (fun c14 => ?_) (fun c14 => ?_)
    · refine kx_iconst (pc := 49) (v := 1) (kx_dd d_Ru_meetsDemands 27 rfl) rfl ?_
      refine kx_zret (pc := 50) rfl rfl (kx_dd d_Ru_meetsDemands 28 rfl) (Nat.le_refl _) (Nat.le_refl _) ?_
      exact ⟨by rw [bP_t (show metP r w m from fun x hx e => by obtain ⟨j, hj⟩ := List.getElem?_of_mem hx; exact hall j x (List.getElem?_eq_some_iff.mp hj).1 hj e)], rfl⟩
    · exact absurd (by rw [hp.2.2.2.2.2.2.1, hp.2.2.2.2.2.2.2.1, nI_add, ruD_len]; exact Int32.le_refl _) c14
  | succ n ih =>
    intro k hk hall
    have o16 := ho.1
    have o10 := ho.2.2.1
    have oa := hr.2.2.2.2.2.2.2.2.2.2.2.2.2.2.2.2.2
    have oD := ruD_len r
    have oM := ho.2.2.2.2.1
    have oE := ho.2.2.2.2.2.1
    obtain ⟨x, hx⟩ : ∃ x, (ruD r)[k]? = some x := ⟨_, List.getElem?_eq_getElem (by omega)⟩
    obtain ⟨q1, q2⟩ := hp.2.2.2.2.2.2.2.2 k x hx
    have o1 := ho.2.2.2.2.2.2.1 x (List.mem_of_getElem? hx)
    refine kx_iload (pc := 3) (kx_dd d_Ru_meetsDemands 2 rfl) rfl ?_
    refine kx_aload_n (pc := 5) (kx_dd d_Ru_meetsDemands 3 rfl) rfl rfl ?_
    refine kx_getI (pc := 6) fl_Ru_47 (by rw [hr.1]) rfl (kx_dd d_Ru_meetsDemands 4 rfl) ?_
    refine kx_aload_n (pc := 9) (kx_dd d_Ru_meetsDemands 5 rfl) rfl rfl ?_
    refine kx_getI (pc := 10) fl_Ru_50 (by rw [hr.1]) rfl (kx_dd d_Ru_meetsDemands 6 rfl) ?_
    refine kx_iadd (pc := 13) (kx_dd d_Ru_meetsDemands 7 rfl) ?_
    refine kx_icmp_ge (pc := 14) (tgt := 49) (kx_dd d_Ru_meetsDemands 8 rfl) rfl (fun c14 => ?_) (fun c14 => ?_)
    · exact absurd c14 (by rw [hp.2.2.2.2.2.2.1, hp.2.2.2.2.2.2.2.1, nI_add, ruD_len]; exact nI_ge (by omega) (by omega))
    · refine kx_aload_n (pc := 17) (kx_dd d_Ru_meetsDemands 9 rfl) rfl rfl ?_
      refine kx_getR (pc := 18) (b := (a + 7)) fl_Ru_31 (by rw [hr.1]) rfl (hr.2.2.2.2.2.2.2.2.2.2.2.2.2.2.2.1) (kx_dd d_Ru_meetsDemands 10 rfl) ?_
      refine kx_iload (pc := 21) (kx_dd d_Ru_meetsDemands 11 rfl) rfl ?_
      refine kx_laldn (pc := 23) k (hr.2.2.2.2.2.2.2.1) rfl (by omega) (by decide) (kx_dd d_Ru_meetsDemands 12 rfl) ?_
      refine kx_lload_n (pc := 24) (kx_dd d_Ru_meetsDemands 13 rfl) rfl rfl ?_
      refine kx_lcmp (pc := 25) (kx_dd d_Ru_meetsDemands 14 rfl) ?_
      refine kx_if_ne (pc := 26) (tgt := 43) (kx_dd d_Ru_meetsDemands 15 rfl) rfl (fun c26 => ?_) (fun c26 => ?_)
      · refine kx_iinc_e (pc := 43) (v := nI (k + 1)) (lv' := [_, _, _, _, _]) (kx_dd d_Ru_meetsDemands 25 rfl) rfl (Nat.le_of_ble_eq_true rfl) (nI_1 k) rfl ?_
        refine kx_goto (pc := 46) (tgt := 3) (kx_dd d_Ru_meetsDemands 26 rfl) rfl ?_
        rw [q1, lcmp0 o1.1 hw] at c26
        exact ih (k + 1) (by omega) (fun j y hj hy => by
          rcases Nat.lt_succ_iff_lt_or_eq.mp hj with z | rfl
          · exact hall j y z hy
          · rw [hx] at hy; cases hy; exact fun e => absurd e c26)
      · refine kx_aload_n (pc := 29) (kx_dd d_Ru_meetsDemands 16 rfl) rfl rfl ?_
        refine kx_getR (pc := 30) (b := (a + 8)) fl_Ru_34 (by rw [hr.1]) rfl (hr.2.2.2.2.2.2.2.2.2.2.2.2.2.2.2.2.1) (kx_dd d_Ru_meetsDemands 17 rfl) ?_
        refine kx_iload (pc := 33) (kx_dd d_Ru_meetsDemands 18 rfl) rfl ?_
        refine kx_ialdn (pc := 35) k (hr.2.2.2.2.2.2.2.2.1) rfl (by omega) (by decide) (kx_dd d_Ru_meetsDemands 19 rfl) ?_
        refine kx_iload_n (pc := 36) (kx_dd d_Ru_meetsDemands 20 rfl) rfl rfl ?_
        refine kx_iand (pc := 37) (kx_dd d_Ru_meetsDemands 21 rfl) ?_
        refine kx_if_ne (pc := 38) (tgt := 43) (kx_dd d_Ru_meetsDemands 22 rfl) rfl (fun c38 => ?_) (fun c38 => ?_)
        · refine kx_iinc_e (pc := 43) (v := nI (k + 1)) (lv' := [_, _, _, _, _]) (kx_dd d_Ru_meetsDemands 25 rfl) rfl (Nat.le_of_ble_eq_true rfl) (nI_1 k) rfl ?_
          refine kx_goto (pc := 46) (tgt := 3) (kx_dd d_Ru_meetsDemands 26 rfl) rfl ?_
          rw [q1, lcmp0 o1.1 hw] at c26
          rw [q2, nI_and, nI_z (Nat.lt_of_le_of_lt Nat.and_le_right hm)] at c38
          exact ih (k + 1) (by omega) (fun j y hj hy => by
            rcases Nat.lt_succ_iff_lt_or_eq.mp hj with z | rfl
            · exact hall j y z hy
            · rw [hx] at hy; cases hy; exact fun _ => c38)
        · refine kx_iconst (pc := 41) (v := 0) (kx_dd d_Ru_meetsDemands 23 rfl) rfl ?_
          refine kx_zret (pc := 42) rfl rfl (kx_dd d_Ru_meetsDemands 24 rfl) (Nat.le_refl _) (Nat.le_refl _) ?_
          rw [q1, lcmp0 o1.1 hw] at c26
          rw [q2, nI_and, nI_z (Nat.lt_of_le_of_lt Nat.and_le_right hm)] at c38
          exact ⟨by rw [bP_f (fun z => z x (List.mem_of_getElem? hx) c26 c38)], rfl⟩
theorem x_Ru_meetsDemands {l : Launch} {g : kx_G} {d : Nat} {h : kx_Mem} (a : Nat) (hr : IsRu h a) (r : RU) (ho : RUok r) (hp : RUc r a h) (w m : Nat) (hw : w < 2 ^ 60) (hm : m < 2 ^ 31) : kx_Sp l g m_Ru_meetsDemands [.ref a, .long (lN w), .int (nI m)] h (d) 0 0 (fun v h' => v = some (.int (bP (metP r w m))) ∧ h' = h) := by
  refine kx_enter_e (lv := [_, _, _, _, _]) (by decide +kernel) (Nat.le_of_ble_eq_true rfl) rfl ?_
  refine kx_iconst (pc := 0) (v := 0) (kx_dd d_Ru_meetsDemands 0 rfl) rfl ?_
  refine kx_istore_e (pc := 1) (lv' := [_, _, _, _, _]) (kx_dd d_Ru_meetsDemands 1 rfl) (Nat.le_of_ble_eq_true rfl) rfl ?_
  exact x_Ru_meets_loop a hr r ho hp w m hw hm (ruD r).length 0 (by omega) (fun j y hj => absurd hj (Nat.not_lt_zero j))
theorem x_Ru_isShown {l : Launch} {g : kx_G} {d : Nat} {h : kx_Mem} (a : Nat) (hr : IsRu h a) (r : RU) (ho : RUok r) (hp : RUc r a h) (w m : Nat) (hw : w < 2 ^ 60) (hm : m < 2 ^ 31) : kx_Sp l g m_Ru_isShown [.ref a, .long (lN w), .int (nI m)] h (d + 2) 0 0 (fun v h' => v = some (.int (bP (shoP r w m))) ∧ h' = h) := by
  refine kx_enter_e (lv := [_, _, _, _]) (by decide +kernel) (Nat.le_of_ble_eq_true rfl) rfl ?_
  refine kx_aload_n (pc := 0) (kx_dd d_Ru_isShown 0 rfl) rfl rfl ?_
  refine kx_iload_n (pc := 1) (kx_dd d_Ru_isShown 1 rfl) rfl rfl ?_
  refine kx_invV (pc := 2) (a := a) (as := [_]) (kx_dd d_Ru_isShown 2 rfl) ⟨lk_Ru_64, wi_Ru_pointsOf, we_Ru_pointsOf⟩ w_Ru_pointsOf (by rw [hr.1]) rfl rfl rfl rfl (Nat.le_of_ble_eq_true rfl) (x_Ru_pointsOf (d := d + 1) a hr r ho hp m hm) (Nat.le_refl _) ⟨Nat.le_refl _, Nat.le_refl _⟩ (fun v h' hq => ?_)
  obtain ⟨rfl, he⟩ := hq
  rw [he]
  clear he
  refine kx_aload_n (pc := 5) (kx_dd d_Ru_isShown 3 rfl) rfl rfl ?_
  refine kx_lload_n (pc := 6) (kx_dd d_Ru_isShown 4 rfl) rfl rfl ?_
  refine kx_invV (pc := 7) (a := a) (as := [_]) (kx_dd d_Ru_isShown 5 rfl) ⟨lk_Ru_68, wi_Ru_needOf, we_Ru_needOf⟩ w_Ru_needOf (by rw [hr.1]) rfl rfl rfl rfl (Nat.le_of_ble_eq_true rfl) (x_Ru_needOf (d := d) a hr r ho hp w hw) (Nat.le_refl _) ⟨Nat.le_refl _, Nat.le_refl _⟩ (fun v h' hq => ?_)
  obtain ⟨rfl, he⟩ := hq
  rw [he]
  clear he
  refine kx_icmp_lt (pc := 10) (tgt := 26) (kx_dd d_Ru_isShown 6 rfl) rfl (fun c10 => ?_) (fun c10 => ?_)
  · refine kx_iconst (pc := 26) (v := 0) (kx_dd d_Ru_isShown 14 rfl) rfl ?_
    refine kx_zret (pc := 27) rfl rfl (kx_dd d_Ru_isShown 15 rfl) (Nat.le_refl _) (Nat.le_refl _) ?_
    have oN := nedF_le ho w
    have oP := ptF_le ho m
    rw [nI_ltI (by omega) (by omega)] at c10
    exact ⟨by rw [bP_f (fun z => absurd z.1 (by omega))], rfl⟩
  · refine kx_aload_n (pc := 13) (kx_dd d_Ru_isShown 7 rfl) rfl rfl ?_
    refine kx_lload_n (pc := 14) (kx_dd d_Ru_isShown 8 rfl) rfl rfl ?_
    refine kx_iload_n (pc := 15) (kx_dd d_Ru_isShown 9 rfl) rfl rfl ?_
    refine kx_invV (pc := 16) (a := a) (as := [_, _]) (kx_dd d_Ru_isShown 10 rfl) ⟨lk_Ru_71, wi_Ru_meetsDemands, we_Ru_meetsDemands⟩ w_Ru_meetsDemands (by rw [hr.1]) rfl rfl rfl rfl (Nat.le_of_ble_eq_true rfl) (x_Ru_meetsDemands (d := d + 1) a hr r ho hp w m hw hm) (Nat.le_refl _) ⟨Nat.le_refl _, Nat.le_refl _⟩ (fun v h' hq => ?_)
    obtain ⟨rfl, he⟩ := hq
    rw [he]
    clear he
    refine kx_if_eq (pc := 19) (tgt := 26) (kx_dd d_Ru_isShown 11 rfl) rfl (fun c19 => ?_) (fun c19 => ?_)
    · refine kx_iconst (pc := 26) (v := 0) (kx_dd d_Ru_isShown 14 rfl) rfl ?_
      refine kx_zret (pc := 27) rfl rfl (kx_dd d_Ru_isShown 15 rfl) (Nat.le_refl _) (Nat.le_refl _) ?_
      have oN := nedF_le ho w
      have oP := ptF_le ho m
      rw [nI_ltI (by omega) (by omega)] at c10
      rw [bP_0] at c19
      exact ⟨by rw [bP_f (fun z => c19 z.2)], rfl⟩
    · refine kx_iconst (pc := 22) (v := 1) (kx_dd d_Ru_isShown 12 rfl) rfl ?_
      refine kx_goto (pc := 23) (tgt := 27) (kx_dd d_Ru_isShown 13 rfl) rfl ?_
      refine kx_zret (pc := 27) rfl rfl (kx_dd d_Ru_isShown 15 rfl) (Nat.le_refl _) (Nat.le_refl _) ?_
      have oN := nedF_le ho w
      have oP := ptF_le ho m
      rw [nI_ltI (by omega) (by omega)] at c10
      rw [bP_0, Classical.not_not] at c19
      exact ⟨by rw [bP_t ⟨by omega, c19⟩], rfl⟩
