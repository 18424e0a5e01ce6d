/-! the reference: rules, what they ask -/
/-- words by their numbers: how many, the code of each -/
def WTok (n : Nat) (T : Nat → Nat) : Prop := n ≤ 2000 ∧ (∀ i j, i < n → j < n → T i = T j → i = j) ∧ ∀ i, i < n → 0 < T i ∧ T i < 2 ^ 60
def wdI (n : Nat) (T : Nat → Nat) (c : Nat) (x : Int32) : Prop := ∃ i, i < n ∧ T i = c ∧ x = nI i
def RUm (r : RU) (v n : Nat) (T : Nat → Nat) (h : kx_Mem) : Prop :=
  (∀ k, k < 11 → h.1 89 (11 * v + k) = ruS r k) ∧ (∀ k, k < 4 → h.1 90 (4 * v + k) = nI (ruO r k)) ∧ h.1 91 v = nI (ruK r) ∧ (∀ k, k < ruK r → wdI n T (ruKW r k) (h.1 92 (16 * v + k)) ∧ h.1 93 (16 * v + k) = nI (ruWT r k)) ∧ h.1 94 v = nI (ruN r) ∧ (∀ k, k < ruN r → wdI n T (ruNW r k) (h.1 95 (10 * v + k)) ∧ h.1 96 (10 * v + k) = nI (ruNP r k)) ∧
  h.1 97 v = nI (ruM r).length ∧ (∀ i x, (ruM r)[i]? = some x → wdI n T x.2.1 (h.1 98 (10 * v + i)) ∧ h.1 99 (10 * v + i) = nI x.2.2.1) ∧ h.1 100 v = nI (ruE r).length ∧ ∀ i x, (ruE r)[i]? = some x → wdI n T x.2.1 (h.1 101 (10 * v + i)) ∧ h.1 102 (10 * v + i) = nI x.2.2.1 ∧ h.1 103 (10 * v + i) = nI x.2.2.2
theorem nI_ix (c v k : Nat) : nI c * nI v + nI k = nI (c * v + k) := by rw [pk_mul, nI_add]
theorem wd_eq {n : Nat} {T : Nat → Nat} (hw : WTok n T) {c j : Nat} {x : Int32} (hx : wdI n T c x) (hj : j < n) : x = nI j ↔ c = T j := by
  obtain ⟨i, hi, rfl, rfl⟩ := hx
  have := hw.1
  rw [nI_eq (by omega) (by omega)]
  exact ⟨fun e => by rw [e], fun e => hw.2.1 i j hi hj e⟩
theorem msk_t {x : Bool × Nat × Nat × Nat} {m : Nat} : msk x &&& m ≠ 0 ↔ bitN m x.2.2.1 = 1 ∨ bitN m x.2.2.2 = 1 := by
  have tb : ∀ i, (msk x).testBit i = true ↔ x.2.2.1 = i ∨ x.2.2.2 = i := by
    intro i
    unfold msk
    rw [Nat.testBit_or, Nat.testBit_two_pow, Nat.testBit_two_pow, Bool.or_eq_true, decide_eq_true_iff, decide_eq_true_iff]
  have b1 : ∀ k, bitN m k = 1 ↔ m.testBit k = true := by
    intro k
    rw [bitN_t]
    cases m.testBit k <;> simp
  rw [b1, b1]
  constructor
  · intro hz
    obtain ⟨i, hi⟩ := Nat.exists_testBit_of_ne_zero hz
    rw [Nat.testBit_and, Bool.and_eq_true, tb] at hi
    rcases hi with ⟨e | e, q⟩
    · left; rw [e]; exact q
    · right; rw [e]; exact q
  · intro hq hz
    rcases hq with q | q
    · exact dis_t hz _ ⟨(tb _).mpr (Or.inl rfl), q⟩
    · exact dis_t hz _ ⟨(tb _).mpr (Or.inr rfl), q⟩
noncomputable def pfN (r : RU) (w m : Nat) : Nat := (if ptF r m < nedF r w then 8 else 0) + @ite Nat (metP r w m) (Classical.propDecidable _) 0 16
theorem pfN_0 {r : RU} {w m : Nat} : pfN r w m = 0 ↔ shoP r w m := by
  unfold pfN shoP
  by_cases h1 : ptF r m < nedF r w <;> by_cases h2 : metP r w m <;> simp [h1, h2] <;> omega
theorem pfN_le {r : RU} {w m : Nat} : pfN r w m ≤ 24 := by
  unfold pfN
  split <;> split <;> omega
theorem y_kindOf_loop {l : Launch} {g : kx_G} {d : Nat} {h : kx_Mem} (hm : SM h) (n : Nat) (T : Nat → Nat) (hwt : WTok n T) (r : RU) (ho : RUok r) (v : Nat) (hv : v ≤ 4) (hp : RUm r v n T h) (j : Nat) (hj : j < n) : ∀ n k, k + n = (ruK r) → (∀ i, i < k → ¬ decide (ruKW r i = T j) = true) → kx_X (l, g, m_Mo_kindOf, d, 0, 0, (fun z9 h' => z9 = some (.int (oI (kiF r (T j)))) ∧ h' = h)) 0 0 2 [some (.ref 84), some (.int (nI v)), some (.int (nI j)), some (.int (nI k))] [] (h) := by
  intro n
  induction n with
  | zero =>
    intro k hk hno
    have hk0 : k = (ruK r) := by omega
    subst hk0
    have o16 := ho.1
    have o10 := ho.2.2.1
    have oM := ho.2.2.2.2.1
    have oE := ho.2.2.2.2.2.1
    have hn2 := hwt.1
    refine kx_iload_n (pc := 2) (kx_dd d_Mo_kindOf 2 rfl) rfl rfl ?_
    refine kx_aload_n (pc := 3) (kx_dd d_Mo_kindOf 3 rfl) rfl rfl ?_
    refine kx_getR (pc := 4) (b := 91) fl_Mo_91 (hm.k 0 rfl) rfl (hm.r 6 rfl) (kx_dd d_Mo_kindOf 4 rfl) ?_
    refine kx_iload_n (pc := 7) (kx_dd d_Mo_kindOf 5 rfl) rfl rfl ?_
    refine kx_ialdn (pc := 8) v (hm.t 7 rfl) rfl (by omega) (by decide) (kx_dd d_Mo_kindOf 6 rfl) ?_
    refine kx_icmp_ge (pc := 9) (tgt := 35) (kx_dd d_Mo_kindOf 7 rfl) rfl (fun c9 => ?_) (fun c9 => ?_)
    · refine kx_iconst (pc := 35) (v := -1) (kx_dd d_Mo_kindOf 22 rfl) rfl ?_
      refine kx_iret (pc := 36) rfl (kx_dd d_Mo_kindOf 23 rfl) (Nat.le_refl _) (Nat.le_refl _) ?_
      exact ⟨by unfold kiF; rw [fnd_none hno]; rfl, rfl⟩
    · exact absurd (by rw [hp.2.2.1]; exact Int32.le_refl _) c9
  | succ n ih =>
    intro k hk hno
    have o16 := ho.1
    have o10 := ho.2.2.1
    have oM := ho.2.2.2.2.1
    have oE := ho.2.2.2.2.2.1
    have hn2 := hwt.1
    have q0 := hp.2.2.2.1 k (by omega)
    refine kx_iload_n (pc := 2) (kx_dd d_Mo_kindOf 2 rfl) rfl rfl ?_
    refine kx_aload_n (pc := 3) (kx_dd d_Mo_kindOf 3 rfl) rfl rfl ?_
    refine kx_getR (pc := 4) (b := 91) fl_Mo_91 (hm.k 0 rfl) rfl (hm.r 6 rfl) (kx_dd d_Mo_kindOf 4 rfl) ?_
    refine kx_iload_n (pc := 7) (kx_dd d_Mo_kindOf 5 rfl) rfl rfl ?_
    refine kx_ialdn (pc := 8) v (hm.t 7 rfl) rfl (by omega) (by decide) (kx_dd d_Mo_kindOf 6 rfl) ?_
    refine kx_icmp_ge (pc := 9) (tgt := 35) (kx_dd d_Mo_kindOf 7 rfl) rfl (fun c9 => ?_) (fun c9 => ?_)
    · exact absurd c9 (by rw [hp.2.2.1]; exact nI_ge (by omega) (by omega))
    · refine kx_aload_n (pc := 12) (kx_dd d_Mo_kindOf 8 rfl) rfl rfl ?_
      refine kx_getR (pc := 13) (b := 92) fl_Mo_103 (hm.k 0 rfl) rfl (hm.r 7 rfl) (kx_dd d_Mo_kindOf 9 rfl) ?_
      refine kx_bipush (pc := 16) (v := 16) (kx_dd d_Mo_kindOf 10 rfl) rfl ?_
      refine kx_iload_n (pc := 18) (kx_dd d_Mo_kindOf 11 rfl) rfl rfl ?_
      refine kx_imul (pc := 19) (kx_dd d_Mo_kindOf 12 rfl) ?_
      refine kx_iload_n (pc := 20) (kx_dd d_Mo_kindOf 13 rfl) rfl rfl ?_
      refine kx_iadd (pc := 21) (kx_dd d_Mo_kindOf 14 rfl) ?_
      refine kx_ialdn (pc := 22) (16 * v + k) (hm.t 8 rfl) (nI_ix 16 v k) (by omega) (by decide) (kx_dd d_Mo_kindOf 15 rfl) ?_
      refine kx_iload_n (pc := 23) (kx_dd d_Mo_kindOf 16 rfl) rfl rfl ?_
      refine kx_icmp_ne (pc := 24) (tgt := 29) (kx_dd d_Mo_kindOf 17 rfl) rfl (fun c24 => ?_) (fun c24 => ?_)
      · refine kx_iinc_e (pc := 29) (v := nI (k + 1)) (lv' := [_, _, _, _]) (kx_dd d_Mo_kindOf 20 rfl) rfl (Nat.le_of_ble_eq_true rfl) (nI_1 k) rfl ?_
        refine kx_goto (pc := 32) (tgt := 2) (kx_dd d_Mo_kindOf 21 rfl) rfl ?_
        rw [wd_eq hwt q0.1 hj] at c24
        exact ih (k + 1) (by omega) (fun i hi => by
          rcases Nat.lt_succ_iff_lt_or_eq.mp hi with z | rfl
          · exact hno i z
          · simpa using c24)
      · refine kx_iload_n (pc := 27) (kx_dd d_Mo_kindOf 18 rfl) rfl rfl ?_
        refine kx_iret (pc := 28) rfl (kx_dd d_Mo_kindOf 19 rfl) (Nat.le_refl _) (Nat.le_refl _) ?_
        rw [wd_eq hwt q0.1 hj] at c24
        exact ⟨by unfold kiF; rw [fnd_some (show k < _ by omega) (by simpa using c24) hno]; rfl, rfl⟩
theorem y_kindOf {l : Launch} {g : kx_G} {d : Nat} {h : kx_Mem} (hm : SM h) (n : Nat) (T : Nat → Nat) (hwt : WTok n T) (r : RU) (ho : RUok r) (v : Nat) (hv : v ≤ 4) (hp : RUm r v n T h) (j : Nat) (hj : j < n) : kx_Sp l g m_Mo_kindOf [.ref 84, .int (nI v), .int (nI j)] h (d) 0 0 (fun z9 h' => z9 = some (.int (oI (kiF r (T j)))) ∧ h' = h) := by
  refine kx_enter_e (lv := [_, _, _, _]) (by decide +kernel) (Nat.le_of_ble_eq_true rfl) rfl ?_
  refine kx_iconst (pc := 0) (v := 0) (kx_dd d_Mo_kindOf 0 rfl) rfl ?_
  refine kx_istore_ne (pc := 1) (lv' := [_, _, _, _]) (kx_dd d_Mo_kindOf 1 rfl) rfl (Nat.le_of_ble_eq_true rfl) rfl ?_
  exact y_kindOf_loop hm n T hwt r ho v hv hp j hj (ruK r) 0 (by omega) (fun i hi => absurd hi (Nat.not_lt_zero i))
theorem y_needOf_loop {l : Launch} {g : kx_G} {d : Nat} {h : kx_Mem} (hm : SM h) (n : Nat) (T : Nat → Nat) (hwt : WTok n T) (r : RU) (ho : RUok r) (v : Nat) (hv : v ≤ 4) (hp : RUm r v n T h) (j : Nat) (hj : j < n) : ∀ n k, k + n = (ruN r) → (∀ i, i < k → ¬ decide (ruNW r i = T j) = true) → kx_X (l, g, m_Mo_needOf, d, 0, 0, (fun z9 h' => z9 = some (.int (nI (nedF r (T j)))) ∧ h' = h)) 0 0 2 [some (.ref 84), some (.int (nI v)), some (.int (nI j)), some (.int (nI k))] [] (h) := by
  intro n
  induction n with
  | zero =>
    intro k hk hno
    have hk0 : k = (ruN r) := by omega
    subst hk0
    have o16 := ho.1
    have o10 := ho.2.2.1
    have oM := ho.2.2.2.2.1
    have oE := ho.2.2.2.2.2.1
    have hn2 := hwt.1
    refine kx_iload_n (pc := 2) (kx_dd d_Mo_needOf 2 rfl) rfl rfl ?_
    refine kx_aload_n (pc := 3) (kx_dd d_Mo_needOf 3 rfl) rfl rfl ?_
    refine kx_getR (pc := 4) (b := 94) fl_Mo_94 (hm.k 0 rfl) rfl (hm.r 9 rfl) (kx_dd d_Mo_needOf 4 rfl) ?_
    refine kx_iload_n (pc := 7) (kx_dd d_Mo_needOf 5 rfl) rfl rfl ?_
    refine kx_ialdn (pc := 8) v (hm.t 10 rfl) rfl (by omega) (by decide) (kx_dd d_Mo_needOf 6 rfl) ?_
    refine kx_icmp_ge (pc := 9) (tgt := 45) (kx_dd d_Mo_needOf 7 rfl) rfl (fun c9 => ?_) (fun c9 => ?_)
    · refine kx_bipush (pc := 45) (v := 10) (kx_dd d_Mo_needOf 29 rfl) rfl ?_
      refine kx_iret (pc := 47) rfl (kx_dd d_Mo_needOf 30 rfl) (Nat.le_refl _) (Nat.le_refl _) ?_
      exact ⟨by unfold nedF neF; rw [fnd_none hno]; rfl, rfl⟩
    · exact absurd (by rw [hp.2.2.2.2.1]; exact Int32.le_refl _) c9
  | succ n ih =>
    intro k hk hno
    have o16 := ho.1
    have o10 := ho.2.2.1
    have oM := ho.2.2.2.2.1
    have oE := ho.2.2.2.2.2.1
    have hn2 := hwt.1
    have q0 := hp.2.2.2.2.2.1 k (by omega)
    refine kx_iload_n (pc := 2) (kx_dd d_Mo_needOf 2 rfl) rfl rfl ?_
    refine kx_aload_n (pc := 3) (kx_dd d_Mo_needOf 3 rfl) rfl rfl ?_
    refine kx_getR (pc := 4) (b := 94) fl_Mo_94 (hm.k 0 rfl) rfl (hm.r 9 rfl) (kx_dd d_Mo_needOf 4 rfl) ?_
    refine kx_iload_n (pc := 7) (kx_dd d_Mo_needOf 5 rfl) rfl rfl ?_
    refine kx_ialdn (pc := 8) v (hm.t 10 rfl) rfl (by omega) (by decide) (kx_dd d_Mo_needOf 6 rfl) ?_
    refine kx_icmp_ge (pc := 9) (tgt := 45) (kx_dd d_Mo_needOf 7 rfl) rfl (fun c9 => ?_) (fun c9 => ?_)
    · exact absurd c9 (by rw [hp.2.2.2.2.1]; exact nI_ge (by omega) (by omega))
    · refine kx_aload_n (pc := 12) (kx_dd d_Mo_needOf 8 rfl) rfl rfl ?_
      refine kx_getR (pc := 13) (b := 95) fl_Mo_206 (hm.k 0 rfl) rfl (hm.r 10 rfl) (kx_dd d_Mo_needOf 9 rfl) ?_
      refine kx_bipush (pc := 16) (v := 10) (kx_dd d_Mo_needOf 10 rfl) rfl ?_
      refine kx_iload_n (pc := 18) (kx_dd d_Mo_needOf 11 rfl) rfl rfl ?_
      refine kx_imul (pc := 19) (kx_dd d_Mo_needOf 12 rfl) ?_
      refine kx_iload_n (pc := 20) (kx_dd d_Mo_needOf 13 rfl) rfl rfl ?_
      refine kx_iadd (pc := 21) (kx_dd d_Mo_needOf 14 rfl) ?_
      refine kx_ialdn (pc := 22) (10 * v + k) (hm.t 11 rfl) (nI_ix 10 v k) (by omega) (by decide) (kx_dd d_Mo_needOf 15 rfl) ?_
      refine kx_iload_n (pc := 23) (kx_dd d_Mo_needOf 16 rfl) rfl rfl ?_
      refine kx_icmp_ne (pc := 24) (tgt := 39) (kx_dd d_Mo_needOf 17 rfl) rfl (fun c24 => ?_) (fun c24 => ?_)
      · refine kx_iinc_e (pc := 39) (v := nI (k + 1)) (lv' := [_, _, _, _]) (kx_dd d_Mo_needOf 27 rfl) rfl (Nat.le_of_ble_eq_true rfl) (nI_1 k) rfl ?_
        refine kx_goto (pc := 42) (tgt := 2) (kx_dd d_Mo_needOf 28 rfl) rfl ?_
        rw [wd_eq hwt q0.1 hj] at c24
        exact ih (k + 1) (by omega) (fun i hi => by
          rcases Nat.lt_succ_iff_lt_or_eq.mp hi with z | rfl
          · exact hno i z
          · simpa using c24)
      · refine kx_aload_n (pc := 27) (kx_dd d_Mo_needOf 18 rfl) rfl rfl ?_
        refine kx_getR (pc := 28) (b := 96) fl_Mo_209 (hm.k 0 rfl) rfl (hm.r 11 rfl) (kx_dd d_Mo_needOf 19 rfl) ?_
        refine kx_bipush (pc := 31) (v := 10) (kx_dd d_Mo_needOf 20 rfl) rfl ?_
        refine kx_iload_n (pc := 33) (kx_dd d_Mo_needOf 21 rfl) rfl rfl ?_
        refine kx_imul (pc := 34) (kx_dd d_Mo_needOf 22 rfl) ?_
        refine kx_iload_n (pc := 35) (kx_dd d_Mo_needOf 23 rfl) rfl rfl ?_
        refine kx_iadd (pc := 36) (kx_dd d_Mo_needOf 24 rfl) ?_
        refine kx_ialdn (pc := 37) (10 * v + k) (hm.t 12 rfl) (nI_ix 10 v k) (by omega) (by decide) (kx_dd d_Mo_needOf 25 rfl) ?_
        refine kx_iret (pc := 38) rfl (kx_dd d_Mo_needOf 26 rfl) (Nat.le_refl _) (Nat.le_refl _) ?_
        rw [wd_eq hwt q0.1 hj] at c24
        exact ⟨by unfold nedF neF; rw [fnd_some (show k < _ by omega) (by simpa using c24) hno, q0.2], rfl⟩
theorem y_needOf {l : Launch} {g : kx_G} {d : Nat} {h : kx_Mem} (hm : SM h) (n : Nat) (T : Nat → Nat) (hwt : WTok n T) (r : RU) (ho : RUok r) (v : Nat) (hv : v ≤ 4) (hp : RUm r v n T h) (j : Nat) (hj : j < n) : kx_Sp l g m_Mo_needOf [.ref 84, .int (nI v), .int (nI j)] h (d) 0 0 (fun z9 h' => z9 = some (.int (nI (nedF r (T j)))) ∧ h' = h) := by
  refine kx_enter_e (lv := [_, _, _, _]) (by decide +kernel) (Nat.le_of_ble_eq_true rfl) rfl ?_
  refine kx_iconst (pc := 0) (v := 0) (kx_dd d_Mo_needOf 0 rfl) rfl ?_
  refine kx_istore_ne (pc := 1) (lv' := [_, _, _, _]) (kx_dd d_Mo_needOf 1 rfl) rfl (Nat.le_of_ble_eq_true rfl) rfl ?_
  exact y_needOf_loop hm n T hwt r ho v hv hp j hj (ruN r) 0 (by omega) (fun i hi => absurd hi (Nat.not_lt_zero i))
theorem y_weighs_loop {l : Launch} {g : kx_G} {d : Nat} {h : kx_Mem} (hm : SM h) (n : Nat) (T : Nat → Nat) (hwt : WTok n T) (r : RU) (ho : RUok r) (v : Nat) (hv : v ≤ 4) (hp : RUm r v n T h) (m : Nat) (hmm : m < 2 ^ 31) : ∀ n k, k + n = (ruK r) →  kx_X (l, g, m_Mo_weighs, d, 0, 0, (fun z9 h' => z9 = some (.int (nI (ptF r m))) ∧ h' = h)) 0 0 5 [some (.ref 84), some (.int (nI v)), some (.int (nI m)), some (.int (nI (ptK r m k))), some (.int (nI k))] [] (h) := by
  intro n
  induction n with
  | zero =>
    intro k hk 
    have hk0 : k = (ruK r) := by omega
    subst hk0
    have o16 := ho.1
    have o10 := ho.2.2.1
    have oM := ho.2.2.2.2.1
    have oE := ho.2.2.2.2.2.1
    have hn2 := hwt.1
    refine kx_iload (pc := 5) (kx_dd d_Mo_weighs 4 rfl) rfl ?_
    refine kx_aload_n (pc := 7) (kx_dd d_Mo_weighs 5 rfl) rfl rfl ?_
    refine kx_getR (pc := 8) (b := 91) fl_Mo_91 (hm.k 0 rfl) rfl (hm.r 6 rfl) (kx_dd d_Mo_weighs 6 rfl) ?_
    refine kx_iload_n (pc := 11) (kx_dd d_Mo_weighs 7 rfl) rfl rfl ?_
    refine kx_ialdn (pc := 12) v (hm.t 7 rfl) rfl (by omega) (by decide) (kx_dd d_Mo_weighs 8 rfl) ?_
    refine kx_icmp_ge (pc := 13) (tgt := 44) (kx_dd d_Mo_weighs 9 rfl) rfl (fun c13 => ?_) (fun c13 => ?_)
    · refine kx_iload_n (pc := 44) (kx_dd d_Mo_weighs 29 rfl) rfl rfl ?_
      refine kx_iret (pc := 45) rfl (kx_dd d_Mo_weighs 30 rfl) (Nat.le_refl _) (Nat.le_refl _) ?_
      exact ⟨rfl, rfl⟩
    · exact absurd (by rw [hp.2.2.1]; exact Int32.le_refl _) c13
  | succ n ih =>
    intro k hk 
    have o16 := ho.1
    have o10 := ho.2.2.1
    have oM := ho.2.2.2.2.1
    have oE := ho.2.2.2.2.2.1
    have hn2 := hwt.1
    have q0 := hp.2.2.2.1 k (by omega)
    refine kx_iload (pc := 5) (kx_dd d_Mo_weighs 4 rfl) rfl ?_
    refine kx_aload_n (pc := 7) (kx_dd d_Mo_weighs 5 rfl) rfl rfl ?_
    refine kx_getR (pc := 8) (b := 91) fl_Mo_91 (hm.k 0 rfl) rfl (hm.r 6 rfl) (kx_dd d_Mo_weighs 6 rfl) ?_
    refine kx_iload_n (pc := 11) (kx_dd d_Mo_weighs 7 rfl) rfl rfl ?_
    refine kx_ialdn (pc := 12) v (hm.t 7 rfl) rfl (by omega) (by decide) (kx_dd d_Mo_weighs 8 rfl) ?_
    refine kx_icmp_ge (pc := 13) (tgt := 44) (kx_dd d_Mo_weighs 9 rfl) rfl (fun c13 => ?_) (fun c13 => ?_)
    · exact absurd c13 (by rw [hp.2.2.1]; exact nI_ge (by omega) (by omega))
    · refine kx_iload_n (pc := 16) (kx_dd d_Mo_weighs 10 rfl) rfl rfl ?_
      refine kx_iload_n (pc := 17) (kx_dd d_Mo_weighs 11 rfl) rfl rfl ?_
      refine kx_iload (pc := 18) (kx_dd d_Mo_weighs 12 rfl) rfl ?_
      refine kx_ishr (pc := 20) (kx_dd d_Mo_weighs 13 rfl) ?_
      refine kx_iconst (pc := 21) (v := 1) (kx_dd d_Mo_weighs 14 rfl) rfl ?_
      refine kx_iand (pc := 22) (kx_dd d_Mo_weighs 15 rfl) ?_
      refine kx_aload_n (pc := 23) (kx_dd d_Mo_weighs 16 rfl) rfl rfl ?_
      refine kx_getR (pc := 24) (b := 93) fl_Mo_109 (hm.k 0 rfl) rfl (hm.r 8 rfl) (kx_dd d_Mo_weighs 17 rfl) ?_
      refine kx_bipush (pc := 27) (v := 16) (kx_dd d_Mo_weighs 18 rfl) rfl ?_
      refine kx_iload_n (pc := 29) (kx_dd d_Mo_weighs 19 rfl) rfl rfl ?_
      refine kx_imul (pc := 30) (kx_dd d_Mo_weighs 20 rfl) ?_
      refine kx_iload (pc := 31) (kx_dd d_Mo_weighs 21 rfl) rfl ?_
      refine kx_iadd (pc := 33) (kx_dd d_Mo_weighs 22 rfl) ?_
      refine kx_ialdn (pc := 34) (16 * v + k) (hm.t 9 rfl) (nI_ix 16 v k) (by omega) (by decide) (kx_dd d_Mo_weighs 23 rfl) ?_
      refine kx_imul (pc := 35) (kx_dd d_Mo_weighs 24 rfl) ?_
      refine kx_iadd (pc := 36) (kx_dd d_Mo_weighs 25 rfl) ?_
      refine kx_istore_ne (pc := 37) (lv' := [_, _, _, _, _]) (kx_dd d_Mo_weighs 26 rfl) rfl (Nat.le_of_ble_eq_true rfl) rfl ?_
      refine kx_iinc_e (pc := 38) (v := nI (k + 1)) (lv' := [_, _, _, _, _]) (kx_dd d_Mo_weighs 27 rfl) rfl (Nat.le_of_ble_eq_true rfl) (nI_1 k) rfl ?_
      refine kx_goto (pc := 41) (tgt := 5) (kx_dd d_Mo_weighs 28 rfl) rfl ?_
      rw [nI_bit hmm (by omega), q0.2, pk_mul, nI_add]
      exact ih (k + 1) (by omega)
theorem y_weighs {l : Launch} {g : kx_G} {d : Nat} {h : kx_Mem} (hm : SM h) (n : Nat) (T : Nat → Nat) (hwt : WTok n T) (r : RU) (ho : RUok r) (v : Nat) (hv : v ≤ 4) (hp : RUm r v n T h) (m : Nat) (hmm : m < 2 ^ 31) : kx_Sp l g m_Mo_weighs [.ref 84, .int (nI v), .int (nI m)] h (d) 0 0 (fun z9 h' => z9 = some (.int (nI (ptF r m))) ∧ h' = h) := by
  refine kx_enter_e (lv := [_, _, _, _, _]) (by decide +kernel) (Nat.le_of_ble_eq_true rfl) rfl ?_
  refine kx_iconst (pc := 0) (v := 0) (kx_dd d_Mo_weighs 0 rfl) rfl ?_
  refine kx_istore_ne (pc := 1) (lv' := [_, _, _, _, _]) (kx_dd d_Mo_weighs 1 rfl) rfl (Nat.le_of_ble_eq_true rfl) rfl ?_
  refine kx_iconst (pc := 2) (v := 0) (kx_dd d_Mo_weighs 2 rfl) rfl ?_
  refine kx_istore_e (pc := 3) (lv' := [_, _, _, _, _]) (kx_dd d_Mo_weighs 3 rfl) (Nat.le_of_ble_eq_true rfl) rfl ?_
  exact y_weighs_loop hm n T hwt r ho v hv hp m hmm (ruK r) 0 (by omega)
theorem y_lacks_e {l : Launch} {g : kx_G} {d : Nat} {h : kx_Mem} (hm : SM h) (n : Nat) (T : Nat → Nat) (hwt : WTok n T) (r : RU) (ho : RUok r) (v : Nat) (hv : v ≤ 4) (hp : RUm r v n T h) (j : Nat) (hj : j < n) (c : Nat) (hc : c < 60) (hcw : h.1 127 c = nI j) (m : Nat) (hmm : m < 2 ^ 31) (hM : ∀ x ∈ ruM r, x.2.1 = T j → msk x &&& m ≠ 0) : ∀ f k, k + f = (ruE r).length → (∀ i x, i < k → (ruE r)[i]? = some x → x.2.1 = T j → msk x &&& m ≠ 0) → kx_X (l, g, m_Mo_lacksSome, d, 0, 0, (fun z9 h' => z9 = some (.int (bP (¬ metP r (T j) m))) ∧ h' = h)) 0 0 66 [some (.ref 84), some (.int (nI c)), some (.int (nI v)), some (.int (nI m)), some (.int (nI (10 * v + k)))] [] h := by
  have o16 := ho.1
  have o10 := ho.2.2.1
  have oM := ho.2.2.2.2.1
  have oE := ho.2.2.2.2.2.1
  have hn2 := hwt.1
  intro f
  induction f with
  | zero =>
    intro k hk hall
    have hk0 : k = (ruE r).length := by omega
    subst hk0
    refine kx_iload (pc := 66) (kx_dd d_Mo_lacksSome 40 rfl) rfl ?_
    refine kx_bipush (pc := 68) (v := 10) (kx_dd d_Mo_lacksSome 41 rfl) rfl ?_
    refine kx_iload_n (pc := 70) (kx_dd d_Mo_lacksSome 42 rfl) rfl rfl ?_
    refine kx_imul (pc := 71) (kx_dd d_Mo_lacksSome 43 rfl) ?_
    refine kx_aload_n (pc := 72) (kx_dd d_Mo_lacksSome 44 rfl) rfl rfl ?_
    refine kx_getR (pc := 73) (b := 100) fl_Mo_100 (hm.k 0 rfl) rfl (hm.r 15 rfl) (kx_dd d_Mo_lacksSome 45 rfl) ?_
    refine kx_iload_n (pc := 76) (kx_dd d_Mo_lacksSome 46 rfl) rfl rfl ?_
    refine kx_ialdn (pc := 77) v (hm.t 16 rfl) rfl (by omega) (by decide) (kx_dd d_Mo_lacksSome 47 rfl) ?_
    refine kx_iadd (pc := 78) (kx_dd d_Mo_lacksSome 48 rfl) ?_
    refine kx_icmp_ge (pc := 79) (tgt := 134) (kx_dd d_Mo_lacksSome 49 rfl) rfl (fun c79 => ?_) (fun c79 => ?_)
    · refine kx_iconst (pc := 134) (v := 0) (kx_dd d_Mo_lacksSome 81 rfl) rfl ?_
      refine kx_zret (pc := 135) rfl rfl (kx_dd d_Mo_lacksSome 82 rfl) (Nat.le_refl _) (Nat.le_refl _) ?_
      have hmet : metP r (T j) m := by
        intro x hx hw
        by_cases hx1 : x.1 = true
        · obtain ⟨i, hi⟩ := List.getElem?_of_mem (show x ∈ ruE r from List.mem_filter.mpr ⟨hx, hx1⟩)
          exact hall i x (List.getElem?_eq_some_iff.mp hi).1 hi hw
        · exact hM x (List.mem_filter.mpr ⟨hx, by simpa using hx1⟩) hw
      exact ⟨by rw [bP_f (fun z => z hmet)], rfl⟩
    · exact absurd (by rw [hp.2.2.2.2.2.2.2.2.1, show (10 : Int32) = nI 10 from rfl, nI_ix]; exact Int32.le_refl _) c79
  | succ f ih =>
    intro k hk hall
    obtain ⟨x, hx⟩ : ∃ x, (ruE r)[k]? = some x := ⟨_, List.getElem?_eq_getElem (by omega)⟩
    obtain ⟨q1, q2, q3⟩ := hp.2.2.2.2.2.2.2.2.2 k x hx
    have hxm := List.mem_of_getElem? hx
    have o1 := ho.2.2.2.2.2.2.1 x (List.mem_filter.mp hxm).1
    refine kx_iload (pc := 66) (kx_dd d_Mo_lacksSome 40 rfl) rfl ?_
    refine kx_bipush (pc := 68) (v := 10) (kx_dd d_Mo_lacksSome 41 rfl) rfl ?_
    refine kx_iload_n (pc := 70) (kx_dd d_Mo_lacksSome 42 rfl) rfl rfl ?_
    refine kx_imul (pc := 71) (kx_dd d_Mo_lacksSome 43 rfl) ?_
    refine kx_aload_n (pc := 72) (kx_dd d_Mo_lacksSome 44 rfl) rfl rfl ?_
    refine kx_getR (pc := 73) (b := 100) fl_Mo_100 (hm.k 0 rfl) rfl (hm.r 15 rfl) (kx_dd d_Mo_lacksSome 45 rfl) ?_
    refine kx_iload_n (pc := 76) (kx_dd d_Mo_lacksSome 46 rfl) rfl rfl ?_
    refine kx_ialdn (pc := 77) v (hm.t 16 rfl) rfl (by omega) (by decide) (kx_dd d_Mo_lacksSome 47 rfl) ?_
    refine kx_iadd (pc := 78) (kx_dd d_Mo_lacksSome 48 rfl) ?_
    refine kx_icmp_ge (pc := 79) (tgt := 134) (kx_dd d_Mo_lacksSome 49 rfl) rfl (fun c79 => ?_) (fun c79 => ?_)
    · exact absurd c79 (by rw [hp.2.2.2.2.2.2.2.2.1, show (10 : Int32) = nI 10 from rfl, nI_ix]; exact nI_ge (by omega) (by omega))
    · refine kx_aload_n (pc := 82) (kx_dd d_Mo_lacksSome 50 rfl) rfl rfl ?_
      refine kx_getR (pc := 83) (b := 101) fl_Mo_225 (hm.k 0 rfl) rfl (hm.r 16 rfl) (kx_dd d_Mo_lacksSome 51 rfl) ?_
      refine kx_iload (pc := 86) (kx_dd d_Mo_lacksSome 52 rfl) rfl ?_
      refine kx_ialdn (pc := 88) (10 * v + k) (hm.t 17 rfl) rfl (by omega) (by decide) (kx_dd d_Mo_lacksSome 53 rfl) ?_
      refine kx_aload_n (pc := 89) (kx_dd d_Mo_lacksSome 54 rfl) rfl rfl ?_
      refine kx_getR (pc := 90) (b := 127) fl_Mo_339 (hm.k 0 rfl) rfl (hm.r 42 rfl) (kx_dd d_Mo_lacksSome 55 rfl) ?_
      refine kx_iload_n (pc := 93) (kx_dd d_Mo_lacksSome 56 rfl) rfl rfl ?_
      refine kx_ialdn (pc := 94) c (hm.t 43 rfl) rfl (by omega) (by decide) (kx_dd d_Mo_lacksSome 57 rfl) ?_
      refine kx_icmp_ne (pc := 95) (tgt := 128) (kx_dd d_Mo_lacksSome 58 rfl) rfl (fun c95 => ?_) (fun c95 => ?_)
      · refine kx_iinc_e (pc := 128) (v := nI (10 * v + (k + 1))) (lv' := [_, _, _, _, _]) (kx_dd d_Mo_lacksSome 79 rfl) rfl (Nat.le_of_ble_eq_true rfl) (nI_1 _) rfl ?_
        refine kx_goto (pc := 131) (tgt := 66) (kx_dd d_Mo_lacksSome 80 rfl) rfl ?_
        rw [hcw, wd_eq hwt q1 hj] at c95
        exact ih (k + 1) (by omega) (fun i y hi hy => by
          rcases Nat.lt_succ_iff_lt_or_eq.mp hi with z | rfl
          · exact hall i y z hy
          · rw [hx] at hy; cases hy; exact fun e => absurd e c95)
      · refine kx_iload_n (pc := 98) (kx_dd d_Mo_lacksSome 59 rfl) rfl rfl ?_
        refine kx_aload_n (pc := 99) (kx_dd d_Mo_lacksSome 60 rfl) rfl rfl ?_
        refine kx_getR (pc := 100) (b := 102) fl_Mo_228 (hm.k 0 rfl) rfl (hm.r 17 rfl) (kx_dd d_Mo_lacksSome 61 rfl) ?_
        refine kx_iload (pc := 103) (kx_dd d_Mo_lacksSome 62 rfl) rfl ?_
        refine kx_ialdn (pc := 105) (10 * v + k) (hm.t 18 rfl) rfl (by omega) (by decide) (kx_dd d_Mo_lacksSome 63 rfl) ?_
        refine kx_ishr (pc := 106) (kx_dd d_Mo_lacksSome 64 rfl) ?_
        refine kx_iconst (pc := 107) (v := 1) (kx_dd d_Mo_lacksSome 65 rfl) rfl ?_
        refine kx_iand (pc := 108) (kx_dd d_Mo_lacksSome 66 rfl) ?_
        refine kx_if_ne (pc := 109) (tgt := 128) (kx_dd d_Mo_lacksSome 67 rfl) rfl (fun c109 => ?_) (fun c109 => ?_)
        · refine kx_iinc_e (pc := 128) (v := nI (10 * v + (k + 1))) (lv' := [_, _, _, _, _]) (kx_dd d_Mo_lacksSome 79 rfl) rfl (Nat.le_of_ble_eq_true rfl) (nI_1 _) rfl ?_
          refine kx_goto (pc := 131) (tgt := 66) (kx_dd d_Mo_lacksSome 80 rfl) rfl ?_
          rw [hcw, wd_eq hwt q1 hj] at c95
          rw [q2, nI_bit hmm (by omega), nI_z (by have := bitN_le m x.2.2.1; omega)] at c109
          exact ih (k + 1) (by omega) (fun i y hi hy => by
            rcases Nat.lt_succ_iff_lt_or_eq.mp hi with z | rfl
            · exact hall i y z hy
            · rw [hx] at hy; cases hy; exact fun _ => msk_t.mpr (Or.inl (by have := bitN_le m x.2.2.1; omega)))
        · refine kx_iload_n (pc := 112) (kx_dd d_Mo_lacksSome 68 rfl) rfl rfl ?_
          refine kx_aload_n (pc := 113) (kx_dd d_Mo_lacksSome 69 rfl) rfl rfl ?_
          refine kx_getR (pc := 114) (b := 103) fl_Mo_231 (hm.k 0 rfl) rfl (hm.r 18 rfl) (kx_dd d_Mo_lacksSome 70 rfl) ?_
          refine kx_iload (pc := 117) (kx_dd d_Mo_lacksSome 71 rfl) rfl ?_
          refine kx_ialdn (pc := 119) (10 * v + k) (hm.t 19 rfl) rfl (by omega) (by decide) (kx_dd d_Mo_lacksSome 72 rfl) ?_
          refine kx_ishr (pc := 120) (kx_dd d_Mo_lacksSome 73 rfl) ?_
          refine kx_iconst (pc := 121) (v := 1) (kx_dd d_Mo_lacksSome 74 rfl) rfl ?_
          refine kx_iand (pc := 122) (kx_dd d_Mo_lacksSome 75 rfl) ?_
          refine kx_if_ne (pc := 123) (tgt := 128) (kx_dd d_Mo_lacksSome 76 rfl) rfl (fun c123 => ?_) (fun c123 => ?_)
          · refine kx_iinc_e (pc := 128) (v := nI (10 * v + (k + 1))) (lv' := [_, _, _, _, _]) (kx_dd d_Mo_lacksSome 79 rfl) rfl (Nat.le_of_ble_eq_true rfl) (nI_1 _) rfl ?_
            refine kx_goto (pc := 131) (tgt := 66) (kx_dd d_Mo_lacksSome 80 rfl) rfl ?_
            rw [hcw, wd_eq hwt q1 hj] at c95
            rw [q3, nI_bit hmm (by omega), nI_z (by have := bitN_le m x.2.2.2; omega)] at c123
            exact ih (k + 1) (by omega) (fun i y hi hy => by
              rcases Nat.lt_succ_iff_lt_or_eq.mp hi with z | rfl
              · exact hall i y z hy
              · rw [hx] at hy; cases hy; exact fun _ => msk_t.mpr (Or.inr (by have := bitN_le m x.2.2.2; omega)))
          · refine kx_iconst (pc := 126) (v := 1) (kx_dd d_Mo_lacksSome 77 rfl) rfl ?_
            refine kx_zret (pc := 127) rfl rfl (kx_dd d_Mo_lacksSome 78 rfl) (Nat.le_refl _) (Nat.le_refl _) ?_
            rw [hcw, wd_eq hwt q1 hj] at c95
            rw [q2, nI_bit hmm (by omega), nI_z (by have := bitN_le m x.2.2.1; omega)] at c109
            rw [q3, nI_bit hmm (by omega), nI_z (by have := bitN_le m x.2.2.2; omega)] at c123
            exact ⟨by rw [bP_t (fun z => by rcases msk_t.mp (z x (List.mem_filter.mp hxm).1 c95) with q | q <;> omega)], rfl⟩
theorem y_lacks_m {l : Launch} {g : kx_G} {d : Nat} {h : kx_Mem} (hm : SM h) (n : Nat) (T : Nat → Nat) (hwt : WTok n T) (r : RU) (ho : RUok r) (v : Nat) (hv : v ≤ 4) (hp : RUm r v n T h) (j : Nat) (hj : j < n) (c : Nat) (hc : c < 60) (hcw : h.1 127 c = nI j) (m : Nat) (hmm : m < 2 ^ 31) : ∀ f k, k + f = (ruM r).length → (∀ i x, i < k → (ruM r)[i]? = some x → x.2.1 = T j → msk x &&& m ≠ 0) → kx_X (l, g, m_Mo_lacksSome, d, 0, 0, (fun z9 h' => z9 = some (.int (bP (¬ metP r (T j) m))) ∧ h' = h)) 0 0 6 [some (.ref 84), some (.int (nI c)), some (.int (nI v)), some (.int (nI m)), some (.int (nI (10 * v + k)))] [] h := by
  have o16 := ho.1
  have o10 := ho.2.2.1
  have oM := ho.2.2.2.2.1
  have oE := ho.2.2.2.2.2.1
  have hn2 := hwt.1
  intro f
  induction f with
  | zero =>
    intro k hk hall
    have hk0 : k = (ruM r).length := by omega
    subst hk0
    refine kx_iload (pc := 6) (kx_dd d_Mo_lacksSome 4 rfl) rfl ?_
    refine kx_bipush (pc := 8) (v := 10) (kx_dd d_Mo_lacksSome 5 rfl) rfl ?_
    refine kx_iload_n (pc := 10) (kx_dd d_Mo_lacksSome 6 rfl) rfl rfl ?_
    refine kx_imul (pc := 11) (kx_dd d_Mo_lacksSome 7 rfl) ?_
    refine kx_aload_n (pc := 12) (kx_dd d_Mo_lacksSome 8 rfl) rfl rfl ?_
    refine kx_getR (pc := 13) (b := 97) fl_Mo_97 (hm.k 0 rfl) rfl (hm.r 12 rfl) (kx_dd d_Mo_lacksSome 9 rfl) ?_
    refine kx_iload_n (pc := 16) (kx_dd d_Mo_lacksSome 10 rfl) rfl rfl ?_
    refine kx_ialdn (pc := 17) v (hm.t 13 rfl) rfl (by omega) (by decide) (kx_dd d_Mo_lacksSome 11 rfl) ?_
    refine kx_iadd (pc := 18) (kx_dd d_Mo_lacksSome 12 rfl) ?_
    refine kx_icmp_ge (pc := 19) (tgt := 60) (kx_dd d_Mo_lacksSome 13 rfl) rfl (fun c19 => ?_) (fun c19 => ?_)
    · refine kx_bipush (pc := 60) (v := 10) (kx_dd d_Mo_lacksSome 36 rfl) rfl ?_
      refine kx_iload_n (pc := 62) (kx_dd d_Mo_lacksSome 37 rfl) rfl rfl ?_
      refine kx_imul (pc := 63) (kx_dd d_Mo_lacksSome 38 rfl) ?_
      rw [show (10 : Int32) = nI 10 from rfl, pk_mul, show 10 * v = 10 * v + 0 from rfl]
      refine kx_istore_e (pc := 64) (lv' := [_, _, _, _, _]) (kx_dd d_Mo_lacksSome 39 rfl) (Nat.le_of_ble_eq_true rfl) rfl ?_
      exact y_lacks_e hm n T hwt r ho v hv hp j hj c hc hcw m hmm (fun x hx hw => by
        obtain ⟨i, hi⟩ := List.getElem?_of_mem hx
        exact hall i x (List.getElem?_eq_some_iff.mp hi).1 hi hw) (ruE r).length 0 (by omega) (fun i x hi => absurd hi (Nat.not_lt_zero i))
    · exact absurd (by rw [hp.2.2.2.2.2.2.1, show (10 : Int32) = nI 10 from rfl, nI_ix]; exact Int32.le_refl _) c19
  | succ f ih =>
    intro k hk hall
    obtain ⟨x, hx⟩ : ∃ x, (ruM r)[k]? = some x := ⟨_, List.getElem?_eq_getElem (by omega)⟩
    obtain ⟨q1, q2⟩ := hp.2.2.2.2.2.2.2.1 k x hx
    have hxm := List.mem_of_getElem? hx
    have o1 := ho.2.2.2.2.2.2.1 x (List.mem_filter.mp hxm).1
    have e12 := o1.2.2.2 (by simpa using (List.mem_filter.mp hxm).2)
    refine kx_iload (pc := 6) (kx_dd d_Mo_lacksSome 4 rfl) rfl ?_
    refine kx_bipush (pc := 8) (v := 10) (kx_dd d_Mo_lacksSome 5 rfl) rfl ?_
    refine kx_iload_n (pc := 10) (kx_dd d_Mo_lacksSome 6 rfl) rfl rfl ?_
    refine kx_imul (pc := 11) (kx_dd d_Mo_lacksSome 7 rfl) ?_
    refine kx_aload_n (pc := 12) (kx_dd d_Mo_lacksSome 8 rfl) rfl rfl ?_
    refine kx_getR (pc := 13) (b := 97) fl_Mo_97 (hm.k 0 rfl) rfl (hm.r 12 rfl) (kx_dd d_Mo_lacksSome 9 rfl) ?_
    refine kx_iload_n (pc := 16) (kx_dd d_Mo_lacksSome 10 rfl) rfl rfl ?_
    refine kx_ialdn (pc := 17) v (hm.t 13 rfl) rfl (by omega) (by decide) (kx_dd d_Mo_lacksSome 11 rfl) ?_
    refine kx_iadd (pc := 18) (kx_dd d_Mo_lacksSome 12 rfl) ?_
    refine kx_icmp_ge (pc := 19) (tgt := 60) (kx_dd d_Mo_lacksSome 13 rfl) rfl (fun c19 => ?_) (fun c19 => ?_)
    · exact absurd c19 (by rw [hp.2.2.2.2.2.2.1, show (10 : Int32) = nI 10 from rfl, nI_ix]; exact nI_ge (by omega) (by omega))
    · refine kx_aload_n (pc := 22) (kx_dd d_Mo_lacksSome 14 rfl) rfl rfl ?_
      refine kx_getR (pc := 23) (b := 98) fl_Mo_214 (hm.k 0 rfl) rfl (hm.r 13 rfl) (kx_dd d_Mo_lacksSome 15 rfl) ?_
      refine kx_iload (pc := 26) (kx_dd d_Mo_lacksSome 16 rfl) rfl ?_
      refine kx_ialdn (pc := 28) (10 * v + k) (hm.t 14 rfl) rfl (by omega) (by decide) (kx_dd d_Mo_lacksSome 17 rfl) ?_
      refine kx_aload_n (pc := 29) (kx_dd d_Mo_lacksSome 18 rfl) rfl rfl ?_
      refine kx_getR (pc := 30) (b := 127) fl_Mo_339 (hm.k 0 rfl) rfl (hm.r 42 rfl) (kx_dd d_Mo_lacksSome 19 rfl) ?_
      refine kx_iload_n (pc := 33) (kx_dd d_Mo_lacksSome 20 rfl) rfl rfl ?_
      refine kx_ialdn (pc := 34) c (hm.t 43 rfl) rfl (by omega) (by decide) (kx_dd d_Mo_lacksSome 21 rfl) ?_
      refine kx_icmp_ne (pc := 35) (tgt := 54) (kx_dd d_Mo_lacksSome 22 rfl) rfl (fun c35 => ?_) (fun c35 => ?_)
      · refine kx_iinc_e (pc := 54) (v := nI (10 * v + (k + 1))) (lv' := [_, _, _, _, _]) (kx_dd d_Mo_lacksSome 34 rfl) rfl (Nat.le_of_ble_eq_true rfl) (nI_1 _) rfl ?_
        refine kx_goto (pc := 57) (tgt := 6) (kx_dd d_Mo_lacksSome 35 rfl) rfl ?_
        rw [hcw, wd_eq hwt q1 hj] at c35
        exact ih (k + 1) (by omega) (fun i y hi hy => by
          rcases Nat.lt_succ_iff_lt_or_eq.mp hi with z | rfl
          · exact hall i y z hy
          · rw [hx] at hy; cases hy; exact fun e => absurd e c35)
      · refine kx_iload_n (pc := 38) (kx_dd d_Mo_lacksSome 23 rfl) rfl rfl ?_
        refine kx_aload_n (pc := 39) (kx_dd d_Mo_lacksSome 24 rfl) rfl rfl ?_
        refine kx_getR (pc := 40) (b := 99) fl_Mo_220 (hm.k 0 rfl) rfl (hm.r 14 rfl) (kx_dd d_Mo_lacksSome 25 rfl) ?_
        refine kx_iload (pc := 43) (kx_dd d_Mo_lacksSome 26 rfl) rfl ?_
        refine kx_ialdn (pc := 45) (10 * v + k) (hm.t 15 rfl) rfl (by omega) (by decide) (kx_dd d_Mo_lacksSome 27 rfl) ?_
        refine kx_ishr (pc := 46) (kx_dd d_Mo_lacksSome 28 rfl) ?_
        refine kx_iconst (pc := 47) (v := 1) (kx_dd d_Mo_lacksSome 29 rfl) rfl ?_
        refine kx_iand (pc := 48) (kx_dd d_Mo_lacksSome 30 rfl) ?_
        refine kx_if_ne (pc := 49) (tgt := 54) (kx_dd d_Mo_lacksSome 31 rfl) rfl (fun c49 => ?_) (fun c49 => ?_)
        · refine kx_iinc_e (pc := 54) (v := nI (10 * v + (k + 1))) (lv' := [_, _, _, _, _]) (kx_dd d_Mo_lacksSome 34 rfl) rfl (Nat.le_of_ble_eq_true rfl) (nI_1 _) rfl ?_
          refine kx_goto (pc := 57) (tgt := 6) (kx_dd d_Mo_lacksSome 35 rfl) rfl ?_
          rw [hcw, wd_eq hwt q1 hj] at c35
          rw [q2, nI_bit hmm (by omega), nI_z (by have := bitN_le m x.2.2.1; omega)] at c49
          exact ih (k + 1) (by omega) (fun i y hi hy => by
            rcases Nat.lt_succ_iff_lt_or_eq.mp hi with z | rfl
            · exact hall i y z hy
            · rw [hx] at hy; cases hy; exact fun _ => msk_t.mpr (Or.inl (by have := bitN_le m x.2.2.1; omega)))
        · refine kx_iconst (pc := 52) (v := 1) (kx_dd d_Mo_lacksSome 32 rfl) rfl ?_
          refine kx_zret (pc := 53) rfl rfl (kx_dd d_Mo_lacksSome 33 rfl) (Nat.le_refl _) (Nat.le_refl _) ?_
          rw [hcw, wd_eq hwt q1 hj] at c35
          rw [q2, nI_bit hmm (by omega), nI_z (by have := bitN_le m x.2.2.1; omega)] at c49
          exact ⟨by rw [bP_t (fun z => by have q := msk_t.mp (z x (List.mem_filter.mp hxm).1 c35); rw [← e12] at q; omega)], rfl⟩
theorem y_lacksSome {l : Launch} {g : kx_G} {d : Nat} {h : kx_Mem} (hm : SM h) (n : Nat) (T : Nat → Nat) (hwt : WTok n T) (r : RU) (ho : RUok r) (v : Nat) (hv : v ≤ 4) (hp : RUm r v n T h) (j : Nat) (hj : j < n) (c : Nat) (hc : c < 60) (hcw : h.1 127 c = nI j) (m : Nat) (hmm : m < 2 ^ 31) : kx_Sp l g m_Mo_lacksSome [.ref 84, .int (nI c), .int (nI v), .int (nI m)] h (d) 0 0 (fun z9 h' => z9 = some (.int (bP (¬ metP r (T j) m))) ∧ h' = h) := by
  refine kx_enter_e (lv := [_, _, _, _, _]) (by decide +kernel) (Nat.le_of_ble_eq_true rfl) rfl ?_
  refine kx_bipush (pc := 0) (v := 10) (kx_dd d_Mo_lacksSome 0 rfl) rfl ?_
  refine kx_iload_n (pc := 2) (kx_dd d_Mo_lacksSome 1 rfl) rfl rfl ?_
  refine kx_imul (pc := 3) (kx_dd d_Mo_lacksSome 2 rfl) ?_
  rw [show (10 : Int32) = nI 10 from rfl, pk_mul, show 10 * v = 10 * v + 0 from rfl]
  refine kx_istore_e (pc := 4) (lv' := [_, _, _, _, _]) (kx_dd d_Mo_lacksSome 3 rfl) (Nat.le_of_ble_eq_true rfl) rfl ?_
  exact y_lacks_m hm n T hwt r ho v hv hp j hj c hc hcw m hmm (ruM r).length 0 (by omega) (fun i x hi => absurd hi (Nat.not_lt_zero i))
theorem y_papersFail {l : Launch} {g : kx_G} {d : Nat} {h : kx_Mem} (hm : SM h) (n : Nat) (T : Nat → Nat) (hwt : WTok n T) (r : RU) (ho : RUok r) (v : Nat) (hv : v ≤ 4) (hp : RUm r v n T h) (j : Nat) (hj : j < n) (c : Nat) (hc : c < 60) (hcw : h.1 127 c = nI j) (m : Nat) (hmm : m < 2 ^ 31) : kx_Sp l g m_Mo_papersFail [.ref 84, .int (nI c), .int (nI v), .int (nI m)] h (d + 1) 0 0 (fun z9 h' => z9 = some (.int (nI (pfN r (T j) m))) ∧ h' = h) := by
  refine kx_enter_e (lv := [_, _, _, _]) (by decide +kernel) (Nat.le_of_ble_eq_true rfl) rfl ?_
  refine kx_aload_n (pc := 0) (kx_dd d_Mo_papersFail 0 rfl) rfl rfl ?_
  refine kx_iload_n (pc := 1) (kx_dd d_Mo_papersFail 1 rfl) rfl rfl ?_
  refine kx_iload_n (pc := 2) (kx_dd d_Mo_papersFail 2 rfl) rfl rfl ?_
  refine kx_invV (pc := 3) (a := 84) (as := [_, _]) (kx_dd d_Mo_papersFail 3 rfl) ⟨lk_Mo_532, wi_Mo_weighs, we_Mo_weighs⟩ w_Mo_weighs (hm.k 0 rfl) rfl rfl rfl rfl (Nat.le_of_ble_eq_true rfl) (y_weighs (d := d) hm n T hwt r ho v hv hp m hmm) (Nat.le_refl _) ⟨Nat.le_refl _, Nat.le_refl _⟩ (fun v h' hq => ?_)
  obtain ⟨rfl, he⟩ := hq
  rw [he]
  clear he
  refine kx_aload_n (pc := 6) (kx_dd d_Mo_papersFail 4 rfl) rfl rfl ?_
  refine kx_iload_n (pc := 7) (kx_dd d_Mo_papersFail 5 rfl) rfl rfl ?_
  refine kx_aload_n (pc := 8) (kx_dd d_Mo_papersFail 6 rfl) rfl rfl ?_
  refine kx_getR (pc := 9) (b := 127) fl_Mo_339 (hm.k 0 rfl) rfl (hm.r 42 rfl) (kx_dd d_Mo_papersFail 7 rfl) ?_
  refine kx_iload_n (pc := 12) (kx_dd d_Mo_papersFail 8 rfl) rfl rfl ?_
  refine kx_ialdn (pc := 13) c (hm.t 43 rfl) rfl (by omega) (by decide) (kx_dd d_Mo_papersFail 9 rfl) ?_
  rw [hcw]
  refine kx_invV (pc := 14) (a := 84) (as := [_, _]) (kx_dd d_Mo_papersFail 10 rfl) ⟨lk_Mo_267, wi_Mo_needOf, we_Mo_needOf⟩ w_Mo_needOf (hm.k 0 rfl) rfl rfl rfl rfl (Nat.le_of_ble_eq_true rfl) (y_needOf (d := d) hm n T hwt r ho v hv hp j hj) (Nat.le_refl _) ⟨Nat.le_refl _, Nat.le_refl _⟩ (fun v h' hq => ?_)
  obtain ⟨rfl, he⟩ := hq
  rw [he]
  clear he
  refine kx_icmp_ge (pc := 17) (tgt := 25) (kx_dd d_Mo_papersFail 11 rfl) rfl (fun c17 => ?_) (fun c17 => ?_)
  · refine kx_iconst (pc := 25) (v := 0) (kx_dd d_Mo_papersFail 14 rfl) rfl ?_
    refine kx_aload_n (pc := 26) (kx_dd d_Mo_papersFail 15 rfl) rfl rfl ?_
    refine kx_iload_n (pc := 27) (kx_dd d_Mo_papersFail 16 rfl) rfl rfl ?_
    refine kx_iload_n (pc := 28) (kx_dd d_Mo_papersFail 17 rfl) rfl rfl ?_
    refine kx_iload_n (pc := 29) (kx_dd d_Mo_papersFail 18 rfl) rfl rfl ?_
    refine kx_invV (pc := 30) (a := 84) (as := [_, _, _]) (kx_dd d_Mo_papersFail 19 rfl) ⟨lk_Mo_535, wi_Mo_lacksSome, we_Mo_lacksSome⟩ w_Mo_lacksSome (hm.k 0 rfl) rfl rfl rfl rfl (Nat.le_of_ble_eq_true rfl) (y_lacksSome (d := d) hm n T hwt r ho v hv hp j hj c hc hcw m hmm) (Nat.le_refl _) ⟨Nat.le_refl _, Nat.le_refl _⟩ (fun v h' hq => ?_)
    obtain ⟨rfl, he⟩ := hq
    rw [he]
    clear he
    refine kx_if_eq (pc := 33) (tgt := 41) (kx_dd d_Mo_papersFail 20 rfl) rfl (fun c33 => ?_) (fun c33 => ?_)
    · refine kx_iconst (pc := 41) (v := 0) (kx_dd d_Mo_papersFail 23 rfl) rfl ?_
      refine kx_iadd (pc := 42) (kx_dd d_Mo_papersFail 24 rfl) ?_
      refine kx_iret (pc := 43) rfl (kx_dd d_Mo_papersFail 25 rfl) (Nat.le_refl _) (Nat.le_refl _) ?_
      have oN := nedF_le ho (T j)
      have oP := ptF_le ho m
      rw [nI_leI (by omega) (by omega)] at c17
      rw [bP_0, Classical.not_not] at c33
      refine ⟨?_, rfl⟩
      unfold pfN
      rw [if_neg (by omega), if_pos c33]
      rfl
    · refine kx_bipush (pc := 36) (v := 16) (kx_dd d_Mo_papersFail 21 rfl) rfl ?_
      refine kx_goto (pc := 38) (tgt := 42) (kx_dd d_Mo_papersFail 22 rfl) rfl ?_
      refine kx_iadd (pc := 42) (kx_dd d_Mo_papersFail 24 rfl) ?_
      refine kx_iret (pc := 43) rfl (kx_dd d_Mo_papersFail 25 rfl) (Nat.le_refl _) (Nat.le_refl _) ?_
      have oN := nedF_le ho (T j)
      have oP := ptF_le ho m
      rw [nI_leI (by omega) (by omega)] at c17
      rw [bP_0, Classical.not_not] at c33
      refine ⟨?_, rfl⟩
      unfold pfN
      rw [if_neg (by omega), if_neg c33]
      rfl
  · refine kx_bipush (pc := 20) (v := 8) (kx_dd d_Mo_papersFail 12 rfl) rfl ?_
    refine kx_goto (pc := 22) (tgt := 26) (kx_dd d_Mo_papersFail 13 rfl) rfl ?_
    refine kx_aload_n (pc := 26) (kx_dd d_Mo_papersFail 15 rfl) rfl rfl ?_
    refine kx_iload_n (pc := 27) (kx_dd d_Mo_papersFail 16 rfl) rfl rfl ?_
    refine kx_iload_n (pc := 28) (kx_dd d_Mo_papersFail 17 rfl) rfl rfl ?_
    refine kx_iload_n (pc := 29) (kx_dd d_Mo_papersFail 18 rfl) rfl rfl ?_
    refine kx_invV (pc := 30) (a := 84) (as := [_, _, _]) (kx_dd d_Mo_papersFail 19 rfl) ⟨lk_Mo_535, wi_Mo_lacksSome, we_Mo_lacksSome⟩ w_Mo_lacksSome (hm.k 0 rfl) rfl rfl rfl rfl (Nat.le_of_ble_eq_true rfl) (y_lacksSome (d := d) hm n T hwt r ho v hv hp j hj c hc hcw m hmm) (Nat.le_refl _) ⟨Nat.le_refl _, Nat.le_refl _⟩ (fun v h' hq => ?_)
    obtain ⟨rfl, he⟩ := hq
    rw [he]
    clear he
    refine kx_if_eq (pc := 33) (tgt := 41) (kx_dd d_Mo_papersFail 20 rfl) rfl (fun c33 => ?_) (fun c33 => ?_)
    · refine kx_iconst (pc := 41) (v := 0) (kx_dd d_Mo_papersFail 23 rfl) rfl ?_
      refine kx_iadd (pc := 42) (kx_dd d_Mo_papersFail 24 rfl) ?_
      refine kx_iret (pc := 43) rfl (kx_dd d_Mo_papersFail 25 rfl) (Nat.le_refl _) (Nat.le_refl _) ?_
      have oN := nedF_le ho (T j)
      have oP := ptF_le ho m
      rw [nI_leI (by omega) (by omega)] at c17
      rw [bP_0, Classical.not_not] at c33
      refine ⟨?_, rfl⟩
      unfold pfN
      rw [if_pos (by omega), if_pos c33]
      rfl
    · refine kx_bipush (pc := 36) (v := 16) (kx_dd d_Mo_papersFail 21 rfl) rfl ?_
      refine kx_goto (pc := 38) (tgt := 42) (kx_dd d_Mo_papersFail 22 rfl) rfl ?_
      refine kx_iadd (pc := 42) (kx_dd d_Mo_papersFail 24 rfl) ?_
      refine kx_iret (pc := 43) rfl (kx_dd d_Mo_papersFail 25 rfl) (Nat.le_refl _) (Nat.le_refl _) ?_
      have oN := nedF_le ho (T j)
      have oP := ptF_le ho m
      rw [nI_leI (by omega) (by omega)] at c17
      rw [bP_0, Classical.not_not] at c33
      refine ⟨?_, rfl⟩
      unfold pfN
      rw [if_pos (by omega), if_neg c33]
      rfl
theorem y_ruleOf {l : Launch} {g : kx_G} {d : Nat} {h : kx_Mem} (hm : SM h) (v k : Nat) (hv : v ≤ 4) (hk : k < 11) : kx_Sp l g m_Mo_ruleOf [.ref 84, .int (nI v), .int (nI k)] h (d) 0 0 (fun z9 h' => z9 = some (.int (h.1 89 (11 * v + k))) ∧ h' = h) := by
  refine kx_enter_e (lv := [_, _, _]) (by decide +kernel) (Nat.le_of_ble_eq_true rfl) rfl ?_
  refine kx_aload_n (pc := 0) (kx_dd d_Mo_ruleOf 0 rfl) rfl rfl ?_
  refine kx_getR (pc := 1) (b := 89) fl_Mo_85 (hm.k 0 rfl) rfl (hm.r 4 rfl) (kx_dd d_Mo_ruleOf 1 rfl) ?_
  refine kx_bipush (pc := 4) (v := 11) (kx_dd d_Mo_ruleOf 2 rfl) rfl ?_
  refine kx_iload_n (pc := 6) (kx_dd d_Mo_ruleOf 3 rfl) rfl rfl ?_
  refine kx_imul (pc := 7) (kx_dd d_Mo_ruleOf 4 rfl) ?_
  refine kx_iload_n (pc := 8) (kx_dd d_Mo_ruleOf 5 rfl) rfl rfl ?_
  refine kx_iadd (pc := 9) (kx_dd d_Mo_ruleOf 6 rfl) ?_
  refine kx_ialdn (pc := 10) (11 * v + k) (hm.t 5 rfl) (nI_ix 11 v k) (by omega) (by decide) (kx_dd d_Mo_ruleOf 7 rfl) ?_
  refine kx_iret (pc := 11) rfl (kx_dd d_Mo_ruleOf 8 rfl) (Nat.le_refl _) (Nat.le_refl _) ?_
  exact ⟨rfl, rfl⟩
theorem y_isVersion {l : Launch} {g : kx_G} {d : Nat} {h : kx_Mem} (q : Int32) : kx_Sp l g m_Mo_isVersion [.int q] h (d + 1) 0 0 (fun z9 h' => z9 = some (.int (bP (0 ≤ q ∧ q ≤ 3))) ∧ h' = h) := by
  refine kx_enter_e (lv := [_]) (by decide +kernel) (Nat.le_of_ble_eq_true rfl) rfl ?_
  refine kx_iload_n (pc := 0) (kx_dd d_Mo_isVersion 0 rfl) rfl rfl ?_
  refine kx_i2l (pc := 1) (kx_dd d_Mo_isVersion 1 rfl) ?_
  refine kx_lconst (pc := 2) (v := 0) (kx_dd d_Mo_isVersion 2 rfl) rfl ?_
  refine kx_ldc2 (pc := 3) kl_Mo_234 (kx_dd d_Mo_isVersion 3 rfl) ?_
  refine kx_invS (pc := 6) (as := [_, _, _]) (kx_dd d_Mo_isVersion 4 rfl) ⟨lk_Mo_5, wt_Mo_in⟩ w_Mo_in rfl rfl (Nat.le_of_ble_eq_true rfl) (y_in (d := d) _ _ _) (Nat.le_refl _) ⟨Nat.le_refl _, Nat.le_refl _⟩ (fun v h' hq => ?_)
  obtain ⟨rfl, he⟩ := hq
  rw [he]
  clear he
  refine kx_zret (pc := 9) rfl (nar_bP _) (kx_dd d_Mo_isVersion 5 rfl) (Nat.le_refl _) (Nat.le_refl _) ?_
  exact ⟨congrArg _ (congrArg _ (bP_c (by rw [w_le0, show (3 : Int64) = (3 : Int32).toInt64 by decide, w_le]))), rfl⟩
