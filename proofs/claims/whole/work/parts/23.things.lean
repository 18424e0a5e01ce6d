/-! the class: Things (object 34) -/
/-- things: how many, and of each its day, marks, worth (0 where none was told) -/
abbrev TS : Type := Nat × (Nat → Nat) × (Nat → Nat) × (Nat → Nat)
def wI (w : Nat) : Int32 := if w = 0 then -1 else nI w
theorem wI_1 {w : Nat} (h : w < 2 ^ 31) : wI w = -1 ↔ w = 0 := by
  unfold wI
  split
  next e => simp [e]
  next e =>
    refine ⟨fun q => ?_, fun q => absurd q e⟩
    have := nI_pos' h
    rw [q] at this
    exact absurd this (by decide)
theorem wI_n {w : Nat} (h : ¬ w = 0) : wI w = nI w := if_neg h
def TSok (s : TS) : Prop := s.1 ≤ 30 ∧ ∀ k, k < s.1 → s.2.1 k ≤ 1999 ∧ s.2.2.1 k ≤ 255 ∧ s.2.2.2 k ≤ 999999
def TSc (s : TS) (h : kx_Mem) : Prop := h.1 34 0 = nI s.1 ∧ ∀ k, k < s.1 → h.1 35 k = nI (s.2.1 k) ∧ h.1 36 k = nI (s.2.2.1 k) ∧ h.1 37 k = wI (s.2.2.2 k)
def TSm (s : TS) (h : kx_Mem) : Prop := h.1 84 50 = nI s.1 ∧ ∀ k, k < s.1 → h.1 118 k = nI (s.2.1 k) ∧ h.1 119 k = nI (s.2.2.1 k) ∧ h.1 120 k = wI (s.2.2.2 k)
theorem xor_lt {a b n : Nat} (ha : a < 2 ^ n) (hb : b < 2 ^ n) : a ^^^ b < 2 ^ n := Nat.xor_lt_two_pow ha hb
def fewK (F : Nat) (s : TS) (m : Nat) : Nat → Nat
  | 0 => F
  | k + 1 => if s.2.2.2 k = 0 then fewK F s m k else if bc (s.2.2.1 k ^^^ m) < fewK F s m k then bc (s.2.2.1 k ^^^ m) else fewK F s m k
theorem fewK_le {F : Nat} {s : TS} {m : Nat} : ∀ k, fewK F s m k ≤ F ∨ fewK F s m k ≤ 64
  | 0 => Or.inl (Nat.le_refl _)
  | k + 1 => by
    have := fewK_le (F := F) (s := s) (m := m) k
    have := bc_le (s.2.2.1 k ^^^ m)
    unfold fewK
    split
    · assumption
    · split <;> omega
theorem fewK_any {F F' : Nat} (hF : 65 ≤ F) (hF' : 65 ≤ F') {s : TS} {m : Nat} : ∀ k, (fewK F s m k = F ∧ fewK F' s m k = F' ∧ ∀ i, i < k → s.2.2.2 i = 0) ∨ (fewK F s m k = fewK F' s m k ∧ fewK F s m k ≤ 64)
  | 0 => Or.inl ⟨rfl, rfl, fun i hi => absurd hi (Nat.not_lt_zero i)⟩
  | k + 1 => by
    have ih := fewK_any hF hF' (s := s) (m := m) k
    have hb := bc_le (s.2.2.1 k ^^^ m)
    unfold fewK
    by_cases hw : s.2.2.2 k = 0
    · simp only [hw, if_true]
      rcases ih with ih | ih
      · refine Or.inl ⟨ih.1, ih.2.1, fun i hi => ?_⟩
        rcases Nat.lt_succ_iff_lt_or_eq.mp hi with h | h
        · exact ih.2.2 i h
        · rw [h]; exact hw
      · exact Or.inr ih
    · simp only [hw, if_false]
      right
      rcases ih with ih | ih
      · rw [ih.1, ih.2.1, if_pos (by omega), if_pos (by omega)]
        exact ⟨rfl, hb⟩
      · rw [← ih.1]
        refine ⟨rfl, ?_⟩
        split <;> omega
theorem nI_dn (k : Nat) : nI (k + 1) + Int32.ofInt (-1) = nI k := by
  rw [show Int32.ofInt (-1) = -1 by decide]
  exact pk_m1 k
def upF {α : Type} (a : Nat → α) (j : Nat) (v : α) : Nat → α := fun i => if i = j then v else a i
def insF (a : Nat → Nat) (w : Nat) : Nat → Nat → Nat
  | 0 => upF a 0 w
  | k + 1 => if w < a k then insF (upF a (k + 1) (a k)) w k else upF a (k + 1) w
theorem insF_le {M w : Nat} (hw : w ≤ M) : ∀ k (a : Nat → Nat), (∀ j, a j ≤ M) → ∀ j, insF a w k j ≤ M
  | 0, a, ha, j => by
    unfold insF upF
    split
    · exact hw
    · exact ha j
  | k + 1, a, ha, j => by
    unfold insF
    split
    · refine insF_le hw k _ (fun i => ?_) j
      unfold upF
      split
      · exact ha k
      · exact ha i
    · unfold upF
      split
      · exact hw
      · exact ha j
def likK (s : TS) (m f : Nat) : Nat → Nat × (Nat → Nat)
  | 0 => (0, fun _ => 0)
  | k + 1 => if s.2.2.2 k = 0 ∨ ¬ bc (s.2.2.1 k ^^^ m) = f then likK s m f k else ((likK s m f k).1 + 1, insF (likK s m f k).2 (s.2.2.2 k) (likK s m f k).1)
theorem likK_le {s : TS} (ho : TSok s) {m f : Nat} : ∀ k, k ≤ s.1 → (likK s m f k).1 ≤ k ∧ ∀ j, (likK s m f k).2 j ≤ 999999
  | 0, _ => ⟨Nat.le_refl _, fun _ => Nat.zero_le _⟩
  | k + 1, hk => by
    have ih := likK_le ho (m := m) (f := f) k (by omega)
    unfold likK
    split
    · exact ⟨by omega, ih.2⟩
    · exact ⟨by simp only; omega, insF_le (ho.2 k (by omega)).2.2 _ _ ih.2⟩
theorem likK_c {s : TS} {m f f' : Nat} : ∀ k, (∀ i, i < k → s.2.2.2 i = 0 ∨ (bc (s.2.2.1 i ^^^ m) = f ↔ bc (s.2.2.1 i ^^^ m) = f')) → likK s m f k = likK s m f' k
  | 0, _ => rfl
  | k + 1, h => by
    have ih := likK_c (f := f) (f' := f') (m := m) (s := s) k (fun i hi => h i (by omega))
    unfold likK
    rw [ih]
    rcases h k (by omega) with e | e
    · rw [if_pos (Or.inl e), if_pos (Or.inl e)]
    · simp only [e]
/-- the likes of a thing: how many, and their worths as they rise -/
def likF (s : TS) (q : Nat) : Nat × (Nat → Nat) := if s.2.2.2 q = 0 then ((if (likK s (s.2.2.1 q) (fewK 99 s (s.2.2.1 q) s.1) s.1).1 < 1 then 1 else (likK s (s.2.2.1 q) (fewK 99 s (s.2.2.1 q) s.1) s.1).1), (likK s (s.2.2.1 q) (fewK 99 s (s.2.2.1 q) s.1) s.1).2) else (1, fun _ => s.2.2.2 q)
def worF (s : TS) (q : Nat) : Nat := (likF s q).2 (((likF s q).1 - 1) / 2)
theorem likF_le {s : TS} (ho : TSok s) {q : Nat} (hq : q < s.1) : 1 ≤ (likF s q).1 ∧ (likF s q).1 ≤ 30 ∧ ∀ j, (likF s q).2 j ≤ 999999 := by
  have h := likK_le ho (m := s.2.2.1 q) (f := fewK 99 s (s.2.2.1 q) s.1) s.1 (Nat.le_refl _)
  have h0 := ho.1
  have h1 := (ho.2 q hq).2.2
  unfold likF
  split
  · refine ⟨?_, ?_, h.2⟩ <;> simp only <;> split <;> omega
  · exact ⟨Nat.le_refl _, Nat.le_of_ble_eq_true rfl, fun _ => h1⟩
theorem worF_le {s : TS} (ho : TSok s) {q : Nat} (hq : q < s.1) : worF s q ≤ 999999 := (likF_le ho hq).2.2 _
theorem likBig {s : TS} {m F : Nat} (hF : 65 ≤ F) : likK s m (fewK F s m s.1) s.1 = likK s m (fewK 99 s m s.1) s.1 := by
  refine likK_c s.1 (fun i hi => ?_)
  rcases fewK_any hF (show 65 ≤ 99 by decide) (s := s) (m := m) s.1 with h | h
  · exact Or.inl (h.2.2 i hi)
  · rw [h.1]; exact Or.inr Iff.rfl
theorem bc8 : ∀ m, m < 2 ^ 8 → bc m ≤ 8 := by decide +kernel
theorem fewK_8 {s : TS} (ho : TSok s) {m : Nat} (hm : m < 2 ^ 8) : ∀ k, k ≤ s.1 → (fewK 8 s m k = 8 ∧ fewK 99 s m k = 99 ∧ ∀ i, i < k → s.2.2.2 i = 0) ∨ (fewK 8 s m k = fewK 99 s m k ∧ fewK 8 s m k ≤ 8)
  | 0, _ => Or.inl ⟨rfl, rfl, fun i hi => absurd hi (Nat.not_lt_zero i)⟩
  | k + 1, hk => by
    have ih := fewK_8 ho hm k (by omega)
    have hk1 := (ho.2 k (by omega)).2.1
    have hb := bc8 (s.2.2.1 k ^^^ m) (xor_lt (n := 8) (show s.2.2.1 k < 2 ^ 8 by omega) hm)
    unfold fewK
    by_cases hw : s.2.2.2 k = 0
    · simp only [hw, if_true]
      rcases ih with ih | ih
      · refine Or.inl ⟨ih.1, ih.2.1, fun i hi => ?_⟩
        rcases Nat.lt_succ_iff_lt_or_eq.mp hi with h | h
        · exact ih.2.2 i h
        · rw [h]; exact hw
      · exact Or.inr ih
    · simp only [hw, if_false]
      right
      rcases ih with ih | ih
      · rw [ih.1, ih.2.1, if_pos (show bc (s.2.2.1 k ^^^ m) < 99 by omega)]
        by_cases z : bc (s.2.2.1 k ^^^ m) < 8
        · rw [if_pos z]; exact ⟨rfl, hb⟩
        · rw [if_neg z]; exact ⟨by omega, Nat.le_refl _⟩
      · rw [← ih.1]
        refine ⟨rfl, ?_⟩
        split <;> omega
theorem likEight {s : TS} (ho : TSok s) {m : Nat} (hm : m < 2 ^ 8) : likK s m (fewK 8 s m s.1) s.1 = likK s m (fewK 99 s m s.1) s.1 := by
  refine likK_c s.1 (fun i hi => ?_)
  rcases fewK_8 ho hm s.1 (Nat.le_refl _) with h | h
  · exact Or.inl (h.2.2 i hi)
  · rw [h.1]; exact Or.inr Iff.rfl
theorem TSc.fr {s : TS} {X : List Nat} {h h' : kx_Mem} (hp : TSc s h) (hf : kx_Fr X h h') (hX : ∀ a ∈ [34, 35, 36, 37], a ∉ X) : TSc s h' := by
  unfold TSc
  rw [hf.2 34 (hX 34 (by decide)), hf.2 35 (hX 35 (by decide)), hf.2 36 (hX 36 (by decide)), hf.2 37 (hX 37 (by decide))]
  exact hp
theorem x_Th_has {l : Launch} {g : kx_G} {d : Nat} {h : kx_Mem} (hs : SC h) (q : Int32) : kx_Sp l g m_Th_has [.ref 34, .int q] h (d) 0 0 (fun v h' => v = some (.int (bP (0 ≤ q ∧ q < h.1 34 0))) ∧ h' = h) := by
  refine kx_enter_e (lv := [_, _]) (by decide +kernel) (Nat.le_of_ble_eq_true rfl) rfl ?_
  refine kx_iload_n (pc := 0) (kx_dd d_Th_has 0 rfl) rfl rfl ?_
  refine kx_if_lt (pc := 1) (tgt := 16) (kx_dd d_Th_has 1 rfl) rfl (fun c1 => ?_) (fun c1 => ?_)
  · refine kx_iconst (pc := 16) (v := 0) (kx_dd d_Th_has 8 rfl) rfl ?_
    refine kx_zret (pc := 17) rfl rfl (kx_dd d_Th_has 9 rfl) (Nat.le_refl _) (Nat.le_refl _) ?_
    exact ⟨by grind [bP], rfl⟩
  · refine kx_iload_n (pc := 4) (kx_dd d_Th_has 2 rfl) rfl rfl ?_
    refine kx_aload_n (pc := 5) (kx_dd d_Th_has 3 rfl) rfl rfl ?_
    refine kx_getI (pc := 6) fl_Th_24 (hs.k 34 rfl) rfl (kx_dd d_Th_has 4 rfl) ?_
    refine kx_icmp_ge (pc := 9) (tgt := 16) (kx_dd d_Th_has 5 rfl) rfl (fun c9 => ?_) (fun c9 => ?_)
    · refine kx_iconst (pc := 16) (v := 0) (kx_dd d_Th_has 8 rfl) rfl ?_
      refine kx_zret (pc := 17) rfl rfl (kx_dd d_Th_has 9 rfl) (Nat.le_refl _) (Nat.le_refl _) ?_
      exact ⟨by grind [bP], rfl⟩
    · refine kx_iconst (pc := 12) (v := 1) (kx_dd d_Th_has 6 rfl) rfl ?_
      refine kx_goto (pc := 13) (tgt := 17) (kx_dd d_Th_has 7 rfl) rfl ?_
      refine kx_zret (pc := 17) rfl rfl (kx_dd d_Th_has 9 rfl) (Nat.le_refl _) (Nat.le_refl _) ?_
      exact ⟨by grind [bP], rfl⟩
theorem x_Th_dayOf {l : Launch} {g : kx_G} {d : Nat} {h : kx_Mem} (hs : SC h) (s : TS) (ho : TSok s) (hp : TSc s h) (q : Nat) (hqq : q < s.1) : kx_Sp l g m_Th_dayOf [.ref 34, .int (nI q)] h (d + 1) 0 0 (fun v h' => v = some (.int (nI (s.2.1 q))) ∧ h' = h) := by
  have o0 := ho.1
  obtain ⟨t1, t2, t3⟩ := hp.2 q hqq
  have o1 := ho.2 q hqq
  refine kx_enter_e (lv := [_, _]) (by decide +kernel) (Nat.le_of_ble_eq_true rfl) rfl ?_
  refine kx_aload_n (pc := 0) (kx_dd d_Th_dayOf 0 rfl) rfl rfl ?_
  refine kx_iload_n (pc := 1) (kx_dd d_Th_dayOf 1 rfl) rfl rfl ?_
  refine kx_invV (pc := 2) (a := 34) (as := [_]) (kx_dd d_Th_dayOf 2 rfl) ⟨lk_Th_28, wi_Th_has, we_Th_has⟩ w_Th_has (hs.k 34 rfl) rfl rfl rfl rfl (Nat.le_of_ble_eq_true rfl) (x_Th_has (d := d) hs (nI q)) (Nat.le_refl _) ⟨Nat.le_refl _, Nat.le_refl _⟩ (fun v h' hq => ?_)
  obtain ⟨rfl, he⟩ := hq
  rw [he, bP_t ⟨nI_pos' (by omega), by rw [hp.1]; exact nI_lt (by omega) (by omega)⟩]
  clear he
  refine kx_if_eq (pc := 5) (tgt := 17) (kx_dd d_Th_dayOf 3 rfl) rfl (fun c5 => absurd c5 (by decide)) (fun _ => ?_)
  refine kx_aload_n (pc := 8) (kx_dd d_Th_dayOf 4 rfl) rfl rfl ?_
  refine kx_getR (pc := 9) (b := 35) fl_Th_11 (hs.k 34 rfl) rfl (hs.r 37 rfl) (kx_dd d_Th_dayOf 5 rfl) ?_
  refine kx_iload_n (pc := 12) (kx_dd d_Th_dayOf 6 rfl) rfl rfl ?_
  refine kx_ialdn (pc := 13) q (hs.t 35 rfl) rfl (by omega) (by decide) (kx_dd d_Th_dayOf 7 rfl) ?_
  refine kx_goto (pc := 14) (tgt := 18) (kx_dd d_Th_dayOf 8 rfl) rfl ?_
  refine kx_iret (pc := 18) rfl (kx_dd d_Th_dayOf 10 rfl) (Nat.le_refl _) (Nat.le_refl _) ?_
  exact ⟨by rw [t1], rfl⟩
theorem x_Th_likeAt {l : Launch} {g : kx_G} {d : Nat} {h : kx_Mem} (hs : SC h) (q : Nat) (hqq : q < 30) : kx_Sp l g m_Th_likeAt [.ref 34, .int (nI q)] h (d) 0 0 (fun v h' => v = some (.int (h.1 38 q)) ∧ h' = h) := by
  refine kx_enter_e (lv := [_, _]) (by decide +kernel) (Nat.le_of_ble_eq_true rfl) rfl ?_
  refine kx_iload_n (pc := 0) (kx_dd d_Th_likeAt 0 rfl) rfl rfl ?_
  refine kx_if_lt (pc := 1) (tgt := 19) (kx_dd d_Th_likeAt 1 rfl) rfl (fun c1 => ?_) (fun c1 => ?_)
  · exact absurd c1 (nI_pos (by omega))
  · refine kx_iload_n (pc := 4) (kx_dd d_Th_likeAt 2 rfl) rfl rfl ?_
    refine kx_bipush (pc := 5) (v := 30) (kx_dd d_Th_likeAt 3 rfl) rfl ?_
    refine kx_icmp_ge (pc := 7) (tgt := 19) (kx_dd d_Th_likeAt 4 rfl) rfl (fun c7 => ?_) (fun c7 => ?_)
    · exact absurd c7 (nI_ge (b := 30) hqq (by decide))
    · refine kx_aload_n (pc := 10) (kx_dd d_Th_likeAt 5 rfl) rfl rfl ?_
      refine kx_getR (pc := 11) (b := 38) fl_Th_21 (hs.k 34 rfl) rfl (hs.r 40 rfl) (kx_dd d_Th_likeAt 6 rfl) ?_
      refine kx_iload_n (pc := 14) (kx_dd d_Th_likeAt 7 rfl) rfl rfl ?_
      refine kx_ialdn (pc := 15) q (hs.t 38 rfl) rfl hqq (by decide) (kx_dd d_Th_likeAt 8 rfl) ?_
      refine kx_goto (pc := 16) (tgt := 20) (kx_dd d_Th_likeAt 9 rfl) rfl ?_
      refine kx_iret (pc := 20) rfl (kx_dd d_Th_likeAt 11 rfl) (Nat.le_refl _) (Nat.le_refl _) ?_
      exact ⟨rfl, rfl⟩
theorem x_Th_add {l : Launch} {g : kx_G} {d : Nat} {h : kx_Mem} (hs : SC h) (n : Nat) (hn : h.1 34 0 = nI n) (hn2 : n ≤ 30) (c dy pe : Int32) : kx_Sp l g m_Th_add [.ref 34, .int c, .int dy, .int pe] h (d) 0 0 (fun v h' => v = some (.int (if n = 30 then -3 else nI n)) ∧ h' = (if n = 30 then h else kx_setI (kx_setI (kx_setI (kx_setI h 35 n c) 36 n dy) 37 n pe) 34 0 (nI (n + 1)))) := by
  refine kx_enter_e (lv := [_, _, _, _]) (by decide +kernel) (Nat.le_of_ble_eq_true rfl) rfl ?_
  refine kx_aload_n (pc := 0) (kx_dd d_Th_add 0 rfl) rfl rfl ?_
  refine kx_getI (pc := 1) fl_Th_24 (hs.k 34 rfl) rfl (kx_dd d_Th_add 1 rfl) ?_
  refine kx_bipush (pc := 4) (v := 30) (kx_dd d_Th_add 2 rfl) rfl ?_
  refine kx_icmp_lt (pc := 6) (tgt := 12) (kx_dd d_Th_add 3 rfl) rfl (fun c6 => ?_) (fun c6 => ?_)
  · have hnn : n < 30 := by
      rw [hn] at c6
      exact (nI_ltI (b := 30) (by omega) (by decide)).mp c6
    refine kx_aload_n (pc := 12) (kx_dd d_Th_add 6 rfl) rfl rfl ?_
    refine kx_getR (pc := 13) (b := 35) fl_Th_11 (hs.k 34 rfl) rfl (hs.r 37 rfl) (kx_dd d_Th_add 7 rfl) ?_
    refine kx_aload_n (pc := 16) (kx_dd d_Th_add 8 rfl) rfl rfl ?_
    refine kx_getI (pc := 17) fl_Th_24 (hs.k 34 rfl) rfl (kx_dd d_Th_add 9 rfl) ?_
    refine kx_iload_n (pc := 20) (kx_dd d_Th_add 10 rfl) rfl rfl ?_
    refine kx_iastn (pc := 21) n (hs.t 35 rfl) (by decide) hn (by omega) (by decide) (kx_dd d_Th_add 11 rfl) ?_
    refine kx_aload_n (pc := 22) (kx_dd d_Th_add 12 rfl) rfl rfl ?_
    refine kx_getR (pc := 23) (b := 36) fl_Th_15 (hs.k 34 rfl) rfl (hs.r 38 rfl) (kx_dd d_Th_add 13 rfl) ?_
    refine kx_aload_n (pc := 26) (kx_dd d_Th_add 14 rfl) rfl rfl ?_
    refine kx_getI (pc := 27) fl_Th_24 (hs.k 34 rfl) rfl (kx_dd d_Th_add 15 rfl) ?_
    refine kx_iload_n (pc := 30) (kx_dd d_Th_add 16 rfl) rfl rfl ?_
    refine kx_iastn (pc := 31) n (hs.t 36 rfl) (by decide) hn (by omega) (by decide) (kx_dd d_Th_add 17 rfl) ?_
    refine kx_aload_n (pc := 32) (kx_dd d_Th_add 18 rfl) rfl rfl ?_
    refine kx_getR (pc := 33) (b := 37) fl_Th_18 (hs.k 34 rfl) rfl (hs.r 39 rfl) (kx_dd d_Th_add 19 rfl) ?_
    refine kx_aload_n (pc := 36) (kx_dd d_Th_add 20 rfl) rfl rfl ?_
    refine kx_getI (pc := 37) fl_Th_24 (hs.k 34 rfl) rfl (kx_dd d_Th_add 21 rfl) ?_
    refine kx_iload_n (pc := 40) (kx_dd d_Th_add 22 rfl) rfl rfl ?_
    refine kx_iastn (pc := 41) n (hs.t 37 rfl) (by decide) hn (by omega) (by decide) (kx_dd d_Th_add 23 rfl) ?_
    refine kx_aload_n (pc := 42) (kx_dd d_Th_add 24 rfl) rfl rfl ?_
    refine kx_dup (pc := 43) (kx_dd d_Th_add 25 rfl) rfl ?_
    refine kx_getI (pc := 44) fl_Th_24 (hs.k 34 rfl) rfl (kx_dd d_Th_add 26 rfl) ?_
    refine kx_iconst (pc := 47) (v := 1) (kx_dd d_Th_add 27 rfl) rfl ?_
    refine kx_iadd (pc := 48) (kx_dd d_Th_add 28 rfl) ?_
    refine kx_putI (pc := 49) fl_Th_24 (hs.k 34 rfl) (by decide) rfl rfl (kx_dd d_Th_add 29 rfl) ?_
    refine kx_aload_n (pc := 52) (kx_dd d_Th_add 30 rfl) rfl rfl ?_
    refine kx_getI (pc := 53) fl_Th_24 (hs.k 34 rfl) rfl (kx_dd d_Th_add 31 rfl) ?_
    refine kx_iconst (pc := 56) (v := 1) (kx_dd d_Th_add 32 rfl) rfl ?_
    refine kx_isub (pc := 57) (kx_dd d_Th_add 33 rfl) ?_
    refine kx_iret (pc := 58) rfl (kx_dd d_Th_add 34 rfl) (Nat.le_refl _) (Nat.le_refl _) ?_
    have e : ¬ n = 30 := by omega
    rw [if_neg e, if_neg e]
    refine ⟨?_, ?_⟩
    · simp [kx_setI, kx_up, hn, nI_1, nI_pred]
    · simp only [show (kx_setI (kx_setI (kx_setI h 35 n c) 36 n dy) 37 n pe).1 34 0 = nI n from hn, nI_1]
  · refine kx_bipush (pc := 9) (v := -3) (kx_dd d_Th_add 4 rfl) rfl ?_
    refine kx_iret (pc := 11) rfl (kx_dd d_Th_add 5 rfl) (Nat.le_refl _) (Nat.le_refl _) ?_
    have e : n = 30 := by
      rcases Nat.lt_or_ge n 30 with q | q
      · exact absurd (show h.1 34 0 < 30 by rw [hn]; exact nI_lt (b := 30) q (by decide)) c6
      · omega
    rw [if_pos e, if_pos e]
    exact ⟨rfl, rfl⟩
theorem x_Th_few_loop {l : Launch} {g : kx_G} {d : Nat} {h : kx_Mem} (hs : SC h) (s : TS) (ho : TSok s) (hp : TSc s h) (m : Nat) (hm : m < 2 ^ 8) : ∀ n k, k + n = s.1 →  kx_X (l, g, m_Th_fewestUnlike, d + 1, 0, 0, (fun v h' => v = some (.int (nI (fewK 8 s m s.1))) ∧ h' = h)) 0 0 5 [some (.ref 34), some (.int (nI m)), some (.int (nI (fewK 8 s m k))), some (.int (nI k))] [] (h) := by
  intro n
  induction n with
  | zero =>
    intro k hk 
    have hk0 : k = s.1 := by omega
    subst hk0
    refine kx_iload_n (pc := 5) (kx_dd d_Th_fewestUnlike 4 rfl) rfl rfl ?_
    refine kx_aload_n (pc := 6) (kx_dd d_Th_fewestUnlike 5 rfl) rfl rfl ?_
    refine kx_getI (pc := 7) fl_Th_24 (hs.k 34 rfl) rfl (kx_dd d_Th_fewestUnlike 6 rfl) ?_
    refine kx_icmp_ge (pc := 10) (tgt := 45) (kx_dd d_Th_fewestUnlike 7 rfl) rfl (fun c10 => ?_) (fun c10 => ?_)
    · refine kx_iload_n (pc := 45) (kx_dd d_Th_fewestUnlike 26 rfl) rfl rfl ?_
      refine kx_iret (pc := 46) rfl (kx_dd d_Th_fewestUnlike 27 rfl) (Nat.le_refl _) (Nat.le_refl _) ?_
      exact ⟨rfl, rfl⟩
    · exact absurd (by rw [hp.1]; exact Int32.le_refl _) c10
  | succ n ih =>
    intro k hk 
    obtain ⟨q1, q2, q3⟩ := hp.2 k (by omega)
    have o1 := ho.2 k (by omega)
    have o2 := ho.1
    have hx := xor_lt (n := 8) (show s.2.2.1 k < 2 ^ 8 by omega) hm
    have of := fewK_le (F := 8) (s := s) (m := m) k
    have ob := bc_le (s.2.2.1 k ^^^ m)
    refine kx_iload_n (pc := 5) (kx_dd d_Th_fewestUnlike 4 rfl) rfl rfl ?_
    refine kx_aload_n (pc := 6) (kx_dd d_Th_fewestUnlike 5 rfl) rfl rfl ?_
    refine kx_getI (pc := 7) fl_Th_24 (hs.k 34 rfl) rfl (kx_dd d_Th_fewestUnlike 6 rfl) ?_
    refine kx_icmp_ge (pc := 10) (tgt := 45) (kx_dd d_Th_fewestUnlike 7 rfl) rfl (fun c10 => ?_) (fun c10 => ?_)
    · exact absurd c10 (by rw [hp.1]; exact nI_ge (by omega) (by omega))
    · refine kx_aload_n (pc := 13) (kx_dd d_Th_fewestUnlike 8 rfl) rfl rfl ?_
      refine kx_getR (pc := 14) (b := 37) fl_Th_18 (hs.k 34 rfl) rfl (hs.r 39 rfl) (kx_dd d_Th_fewestUnlike 9 rfl) ?_
      refine kx_iload_n (pc := 17) (kx_dd d_Th_fewestUnlike 10 rfl) rfl rfl ?_
      refine kx_ialdn (pc := 18) k (hs.t 37 rfl) rfl (by omega) (by decide) (kx_dd d_Th_fewestUnlike 11 rfl) ?_
      refine kx_iconst (pc := 19) (v := -1) (kx_dd d_Th_fewestUnlike 12 rfl) rfl ?_
      refine kx_icmp_eq (pc := 20) (tgt := 39) (kx_dd d_Th_fewestUnlike 13 rfl) rfl (fun c20 => ?_) (fun c20 => ?_)
      · refine kx_iinc_e (pc := 39) (v := nI (k + 1)) (lv' := [_, _, _, _]) (kx_dd d_Th_fewestUnlike 24 rfl) rfl (Nat.le_of_ble_eq_true rfl) (nI_1 k) rfl ?_
        refine kx_goto (pc := 42) (tgt := 5) (kx_dd d_Th_fewestUnlike 25 rfl) rfl ?_
        rw [q3, wI_1 (by omega)] at c20
        have e1 : fewK 8 s m (k + 1) = fewK 8 s m k := if_pos c20
        have ih1 := ih (k + 1) (by omega)
        rw [e1] at ih1
        exact ih1
      · refine kx_iload_n (pc := 23) (kx_dd d_Th_fewestUnlike 14 rfl) rfl rfl ?_
        refine kx_aload_n (pc := 24) (kx_dd d_Th_fewestUnlike 15 rfl) rfl rfl ?_
        refine kx_getR (pc := 25) (b := 36) fl_Th_15 (hs.k 34 rfl) rfl (hs.r 38 rfl) (kx_dd d_Th_fewestUnlike 16 rfl) ?_
        refine kx_iload_n (pc := 28) (kx_dd d_Th_fewestUnlike 17 rfl) rfl rfl ?_
        refine kx_ialdn (pc := 29) k (hs.t 36 rfl) rfl (by omega) (by decide) (kx_dd d_Th_fewestUnlike 18 rfl) ?_
        refine kx_iload_n (pc := 30) (kx_dd d_Th_fewestUnlike 19 rfl) rfl rfl ?_
        refine kx_ixor (pc := 31) (kx_dd d_Th_fewestUnlike 20 rfl) ?_
        rw [q2, nI_xor]
        refine kx_invS (pc := 32) (as := [_]) (kx_dd d_Th_fewestUnlike 21 rfl) ⟨lk_Th_45, wt_In_bitCount⟩ w_In_bitCount rfl rfl (Nat.le_of_ble_eq_true rfl) (x_In_bitCount (d := d) (s.2.2.1 k ^^^ m) (by omega)) (Nat.le_refl _) ⟨Nat.le_refl _, Nat.le_refl _⟩ (fun v h' hq => ?_)
        obtain ⟨rfl, he⟩ := hq
        rw [he]
        clear he
        refine kx_mmin (pc := 35) mk_Th_60 (kx_dd d_Th_fewestUnlike 22 rfl) (Nat.le_of_ble_eq_true rfl) (Nat.le_of_ble_eq_true rfl) (Nat.le_refl _) (Nat.le_refl _) ?_
        refine kx_istore_ne (pc := 38) (lv' := [_, _, _, _]) (kx_dd d_Th_fewestUnlike 23 rfl) rfl (Nat.le_of_ble_eq_true rfl) rfl ?_
        refine kx_iinc_e (pc := 39) (v := nI (k + 1)) (lv' := [_, _, _, _]) (kx_dd d_Th_fewestUnlike 24 rfl) rfl (Nat.le_of_ble_eq_true rfl) (nI_1 k) rfl ?_
        refine kx_goto (pc := 42) (tgt := 5) (kx_dd d_Th_fewestUnlike 25 rfl) rfl ?_
        rw [q3, wI_1 (by omega)] at c20
        have e1 : nI (fewK 8 s m (k + 1)) = (if nI (bc (s.2.2.1 k ^^^ m)) < nI (fewK 8 s m k) then nI (bc (s.2.2.1 k ^^^ m)) else nI (fewK 8 s m k)) := by
          simp only [fewK, if_neg c20]
          by_cases z : bc (s.2.2.1 k ^^^ m) < fewK 8 s m k
          · rw [if_pos z, if_pos (nI_lt z (by omega))]
          · rw [if_neg z, if_neg (nI_nlt (by omega) (by omega))]
        rw [← e1]
        exact ih (k + 1) (by omega)
theorem x_Th_fewestUnlike {l : Launch} {g : kx_G} {d : Nat} {h : kx_Mem} (hs : SC h) (s : TS) (ho : TSok s) (hp : TSc s h) (m : Nat) (hm : m < 2 ^ 8) : kx_Sp l g m_Th_fewestUnlike [.ref 34, .int (nI m)] h (d + 1) 0 0 (fun v h' => v = some (.int (nI (fewK 8 s m s.1))) ∧ h' = h) := by
  refine kx_enter_e (lv := [_, _, _, _]) (by decide +kernel) (Nat.le_of_ble_eq_true rfl) rfl ?_
  refine kx_bipush (pc := 0) (v := 8) (kx_dd d_Th_fewestUnlike 0 rfl) rfl ?_
  refine kx_istore_ne (pc := 2) (lv' := [_, _, _, _]) (kx_dd d_Th_fewestUnlike 1 rfl) rfl (Nat.le_of_ble_eq_true rfl) rfl ?_
  refine kx_iconst (pc := 3) (v := 0) (kx_dd d_Th_fewestUnlike 2 rfl) rfl ?_
  refine kx_istore_ne (pc := 4) (lv' := [_, _, _, _]) (kx_dd d_Th_fewestUnlike 3 rfl) rfl (Nat.le_of_ble_eq_true rfl) rfl ?_
  exact x_Th_few_loop hs s ho hp m hm s.1 0 (by omega)
theorem x_Th_ins_loop {l : Launch} {g : kx_G} {d : Nat} {h0 : kx_Mem} (hs0 : SC h0) (w c : Nat) (hw : w ≤ 999999) (hc : c < 30) (R : Nat → Nat) : ∀ k, k ≤ c → ∀ (a : Nat → Nat) (h : kx_Mem), kx_Fr [38] h0 h → (∀ j, a j ≤ 999999) → (∀ j, j < c + 1 → j ≠ k → h.1 38 j = nI (a j)) → R = insF a w k → kx_X (l, g, m_Th_insert, d + 1, 0, 0, (fun v h' => v = none ∧ (∀ j, j < c + 1 → h'.1 38 j = nI (R j)) ∧ kx_Fr [38] h0 h')) 0 0 7 [some (.ref 34), some (.int (nI w)), some (.int (nI c)), some (.int (nI k))] [] h := by
  intro k
  induction k with
  | zero =>
    intro hk a h hf ha ha2 hR
    have hs := hs0.fr hf
    refine kx_iload_n (pc := 7) (kx_dd d_Th_insert 4 rfl) rfl rfl ?_
    refine kx_if_le (pc := 8) (tgt := 43) (kx_dd d_Th_insert 5 rfl) rfl (fun c8 => ?_) (fun c8 => ?_)
    · refine kx_aload_n (pc := 43) (kx_dd d_Th_insert 26 rfl) rfl rfl ?_
      refine kx_getR (pc := 44) (b := 38) fl_Th_21 (hs.k 34 rfl) rfl (hs.r 40 rfl) (kx_dd d_Th_insert 27 rfl) ?_
      refine kx_iload_n (pc := 47) (kx_dd d_Th_insert 28 rfl) rfl rfl ?_
      refine kx_iload_n (pc := 48) (kx_dd d_Th_insert 29 rfl) rfl rfl ?_
      refine kx_iastn (pc := 49) 0 (hs.t 38 rfl) (by decide) rfl (by omega) (by decide) (kx_dd d_Th_insert 30 rfl) ?_
      refine kx_vret (pc := 50) rfl (kx_dd d_Th_insert 31 rfl) (Nat.le_refl _) (Nat.le_refl _) ?_
      refine ⟨rfl, fun j hj => ?_, hf.tr (kx_Fr.set (by simp))⟩
      rw [hR]
      simp only [kx_setI, kx_up, insF, upF, if_true]
      split
      · rfl
      next e => exact ha2 j hj e
    · exact absurd (by decide) c8
  | succ k ih =>
    intro hk a h hf ha ha2 hR
    have hs := hs0.fr hf
    have e0 := ha2 k (by omega) (by omega)
    have e1 := ha k
    refine kx_iload_n (pc := 7) (kx_dd d_Th_insert 4 rfl) rfl rfl ?_
    refine kx_if_le (pc := 8) (tgt := 43) (kx_dd d_Th_insert 5 rfl) rfl (fun c8 => ?_) (fun c8 => ?_)
    · exact absurd c8 (by exact nI_nle (by omega) (by omega))
    · refine kx_aload_n (pc := 11) (kx_dd d_Th_insert 6 rfl) rfl rfl ?_
      refine kx_getR (pc := 12) (b := 38) fl_Th_21 (hs.k 34 rfl) rfl (hs.r 40 rfl) (kx_dd d_Th_insert 7 rfl) ?_
      refine kx_iload_n (pc := 15) (kx_dd d_Th_insert 8 rfl) rfl rfl ?_
      refine kx_iconst (pc := 16) (v := 1) (kx_dd d_Th_insert 9 rfl) rfl ?_
      refine kx_isub (pc := 17) (kx_dd d_Th_insert 10 rfl) ?_
      refine kx_ialdn (pc := 18) k (hs.t 38 rfl) (nI_pred k) (by omega) (by decide) (kx_dd d_Th_insert 11 rfl) ?_
      refine kx_iload_n (pc := 19) (kx_dd d_Th_insert 12 rfl) rfl rfl ?_
      refine kx_icmp_le (pc := 20) (tgt := 43) (kx_dd d_Th_insert 13 rfl) rfl (fun c20 => ?_) (fun c20 => ?_)
      · refine kx_aload_n (pc := 43) (kx_dd d_Th_insert 26 rfl) rfl rfl ?_
        refine kx_getR (pc := 44) (b := 38) fl_Th_21 (hs.k 34 rfl) rfl (hs.r 40 rfl) (kx_dd d_Th_insert 27 rfl) ?_
        refine kx_iload_n (pc := 47) (kx_dd d_Th_insert 28 rfl) rfl rfl ?_
        refine kx_iload_n (pc := 48) (kx_dd d_Th_insert 29 rfl) rfl rfl ?_
        refine kx_iastn (pc := 49) (k + 1) (hs.t 38 rfl) (by decide) rfl (by omega) (by decide) (kx_dd d_Th_insert 30 rfl) ?_
        refine kx_vret (pc := 50) rfl (kx_dd d_Th_insert 31 rfl) (Nat.le_refl _) (Nat.le_refl _) ?_
        rw [e0, nI_leI (by omega) (by omega)] at c20
        refine ⟨rfl, fun j hj => ?_, hf.tr (kx_Fr.set (by simp))⟩
        rw [hR]
        simp only [insF, if_neg (show ¬ w < a k by omega), upF]
        simp only [kx_setI, kx_up, if_true]
        split
        · rfl
        next e => exact ha2 j hj e
      · refine kx_aload_n (pc := 23) (kx_dd d_Th_insert 14 rfl) rfl rfl ?_
        refine kx_getR (pc := 24) (b := 38) fl_Th_21 (hs.k 34 rfl) rfl (hs.r 40 rfl) (kx_dd d_Th_insert 15 rfl) ?_
        refine kx_iload_n (pc := 27) (kx_dd d_Th_insert 16 rfl) rfl rfl ?_
        refine kx_aload_n (pc := 28) (kx_dd d_Th_insert 17 rfl) rfl rfl ?_
        refine kx_getR (pc := 29) (b := 38) fl_Th_21 (hs.k 34 rfl) rfl (hs.r 40 rfl) (kx_dd d_Th_insert 18 rfl) ?_
        refine kx_iload_n (pc := 32) (kx_dd d_Th_insert 19 rfl) rfl rfl ?_
        refine kx_iconst (pc := 33) (v := 1) (kx_dd d_Th_insert 20 rfl) rfl ?_
        refine kx_isub (pc := 34) (kx_dd d_Th_insert 21 rfl) ?_
        refine kx_ialdn (pc := 35) k (hs.t 38 rfl) (nI_pred k) (by omega) (by decide) (kx_dd d_Th_insert 22 rfl) ?_
        refine kx_iastn (pc := 36) (k + 1) (hs.t 38 rfl) (by decide) rfl (by omega) (by decide) (kx_dd d_Th_insert 23 rfl) ?_
        refine kx_iinc_e (pc := 37) (v := nI k) (lv' := [_, _, _, _]) (kx_dd d_Th_insert 24 rfl) rfl (Nat.le_of_ble_eq_true rfl) (nI_dn k) rfl ?_
        refine kx_goto (pc := 40) (tgt := 7) (kx_dd d_Th_insert 25 rfl) rfl ?_
        rw [e0, nI_leI (by omega) (by omega)] at c20
        rw [e0]
        refine ih (by omega) (upF a (k + 1) (a k)) _ (hf.tr (kx_Fr.set (by simp))) (fun j => ?_) (fun j hj hj2 => ?_) ?_
        · unfold upF; split
          · exact e1
          · exact ha j
        · simp only [kx_setI, kx_up, upF, if_true]
          split
          · rfl
          next e => exact ha2 j hj e
        · rw [hR]; simp only [insF, if_pos (show w < a k by omega)]
theorem x_Th_insert {l : Launch} {g : kx_G} {d : Nat} {h : kx_Mem} (hs : SC h) (w c : Nat) (hw : w ≤ 999999) (hc : c < 30) (a : Nat → Nat) (ha : ∀ j, a j ≤ 999999) (hr : ∀ j, j < c → h.1 38 j = nI (a j)) : kx_Sp l g m_Th_insert [.ref 34, .int (nI w), .int (nI c)] h (d + 1) 0 0 (fun v h' => v = none ∧ (∀ j, j < c + 1 → h'.1 38 j = nI (insF a w c j)) ∧ kx_Fr [38] h h') := by
  refine kx_enter_e (lv := [_, _, _, _]) (by decide +kernel) (Nat.le_of_ble_eq_true rfl) rfl ?_
  refine kx_iload_n (pc := 0) (kx_dd d_Th_insert 0 rfl) rfl rfl ?_
  refine kx_bipush (pc := 1) (v := 29) (kx_dd d_Th_insert 1 rfl) rfl ?_
  refine kx_mmin (pc := 3) mk_Th_60 (kx_dd d_Th_insert 2 rfl) (Nat.le_of_ble_eq_true rfl) (Nat.le_of_ble_eq_true rfl) (Nat.le_refl _) (Nat.le_refl _) ?_
  refine kx_istore_ne (pc := 6) (lv' := [_, _, _, _]) (kx_dd d_Th_insert 3 rfl) rfl (Nat.le_of_ble_eq_true rfl) rfl ?_
  have e : (if (29 : Int32) < nI c then 29 else nI c) = nI c := if_neg (nI_nlt (a := 29) (by omega) (by decide))
  rw [e]
  exact x_Th_ins_loop hs w c hw hc _ c (Nat.le_refl _) a h kx_Fr.rf ha (fun j hj hj2 => hr j (by omega)) rfl
theorem x_Th_list_loop {l : Launch} {g : kx_G} {d : Nat} {h : kx_Mem} (hs : SC h) (s : TS) (ho : TSok s) (hp : TSc s h) (q : Nat) (hqq : q < s.1) (hw0 : s.2.2.2 q = 0) : ∀ n k, k + n = s.1 → ∀ h1, kx_Fr [38] h h1 → (∀ j, j < (if (likK s (s.2.2.1 q) (fewK 8 s (s.2.2.1 q) s.1) k).1 < 1 then 1 else (likK s (s.2.2.1 q) (fewK 8 s (s.2.2.1 q) s.1) k).1) → h1.1 38 j = nI ((likK s (s.2.2.1 q) (fewK 8 s (s.2.2.1 q) s.1) k).2 j)) → kx_X (l, g, m_Th_listLikes, d + 2, 0, 0, (fun v h' => v = some (.int (nI (likF s q).1)) ∧ (∀ j, j < (likF s q).1 → h'.1 38 j = nI ((likF s q).2 j)) ∧ kx_Fr [38] h h')) 0 0 57 [some (.ref 34), some (.int (nI q)), some (.int (nI (fewK 8 s (s.2.2.1 q) s.1))), some (.int (nI (likK s (s.2.2.1 q) (fewK 8 s (s.2.2.1 q) s.1) k).1)), some (.int (nI k))] [] (h1) := by
  intro n
  induction n with
  | zero =>
    intro k hk h1 hf hr
    have hk0 : k = s.1 := by omega
    subst hk0
    have hs := hs.fr hf
    have hp := hp.fr hf (by intro a ha; simp at ha ⊢; omega)
    have ol := likK_le ho (m := (s.2.2.1 q)) (f := (fewK 8 s (s.2.2.1 q) s.1)) s.1 (Nat.le_refl _)
    have o2 := ho.1
    refine kx_iload (pc := 57) (kx_dd d_Th_listLikes 38 rfl) rfl ?_
    refine kx_aload_n (pc := 59) (kx_dd d_Th_listLikes 39 rfl) rfl rfl ?_
    refine kx_getI (pc := 60) fl_Th_24 (hs.k 34 rfl) rfl (kx_dd d_Th_listLikes 40 rfl) ?_
    refine kx_icmp_ge (pc := 63) (tgt := 119) (kx_dd d_Th_listLikes 41 rfl) rfl (fun c63 => ?_) (fun c63 => ?_)
    · refine kx_iload_n (pc := 119) (kx_dd d_Th_listLikes 70 rfl) rfl rfl ?_
      refine kx_iconst (pc := 120) (v := 1) (kx_dd d_Th_listLikes 71 rfl) rfl ?_
      refine kx_mmax (pc := 121) mk_Th_54 (kx_dd d_Th_listLikes 72 rfl) (Nat.le_of_ble_eq_true rfl) (Nat.le_of_ble_eq_true rfl) (Nat.le_refl _) (Nat.le_refl _) ?_
      refine kx_iret (pc := 124) rfl (kx_dd d_Th_listLikes 73 rfl) (Nat.le_refl _) (Nat.le_refl _) ?_
      have oq := (ho.2 q hqq).2.1
      rw [likEight ho (show s.2.2.1 q < 2 ^ 8 by omega)] at hr ol ⊢
      refine ⟨?_, ?_, hf⟩
      · unfold likF
        rw [if_pos hw0]
        simp only
        by_cases z : (likK s (s.2.2.1 q) (fewK 99 s (s.2.2.1 q) s.1) s.1).1 < 1
        · rw [if_pos z, if_pos (show nI _ < (1 : Int32) from nI_lt (b := 1) z (by decide))]; rfl
        · rw [if_neg z, if_neg (show ¬ nI _ < (1 : Int32) from nI_nlt (b := 1) (by omega) (by omega))]
      · unfold likF
        rw [if_pos hw0]
        exact hr
    · exact absurd (by rw [hp.1]; exact Int32.le_refl _) c63
  | succ n ih =>
    intro k hk h1 hf hr
    have hs := hs.fr hf
    have hp := hp.fr hf (by intro a ha; simp at ha ⊢; omega)
    obtain ⟨q1, q2, q3⟩ := hp.2 k (by omega)
    obtain ⟨t1, t2, t3⟩ := hp.2 q hqq
    have o1 := ho.2 k (by omega)
    have o1q := ho.2 q hqq
    have o2 := ho.1
    have hx := xor_lt (n := 8) (show s.2.2.1 k < 2 ^ 8 by omega) (show s.2.2.1 q < 2 ^ 8 by omega)
    have of := fewK_le (F := 8) (s := s) (m := s.2.2.1 q) s.1
    have ob := bc_le (s.2.2.1 k ^^^ s.2.2.1 q)
    have ol := likK_le ho (m := (s.2.2.1 q)) (f := (fewK 8 s (s.2.2.1 q) s.1)) k (by omega)
    refine kx_iload (pc := 57) (kx_dd d_Th_listLikes 38 rfl) rfl ?_
    refine kx_aload_n (pc := 59) (kx_dd d_Th_listLikes 39 rfl) rfl rfl ?_
    refine kx_getI (pc := 60) fl_Th_24 (hs.k 34 rfl) rfl (kx_dd d_Th_listLikes 40 rfl) ?_
    refine kx_icmp_ge (pc := 63) (tgt := 119) (kx_dd d_Th_listLikes 41 rfl) rfl (fun c63 => ?_) (fun c63 => ?_)
    · exact absurd c63 (by rw [hp.1]; exact nI_ge (by omega) (by omega))
    · refine kx_aload_n (pc := 66) (kx_dd d_Th_listLikes 42 rfl) rfl rfl ?_
      refine kx_getR (pc := 67) (b := 37) fl_Th_18 (hs.k 34 rfl) rfl (hs.r 39 rfl) (kx_dd d_Th_listLikes 43 rfl) ?_
      refine kx_iload (pc := 70) (kx_dd d_Th_listLikes 44 rfl) rfl ?_
      refine kx_ialdn (pc := 72) k (hs.t 37 rfl) rfl (by omega) (by decide) (kx_dd d_Th_listLikes 45 rfl) ?_
      refine kx_iconst (pc := 73) (v := -1) (kx_dd d_Th_listLikes 46 rfl) rfl ?_
      refine kx_icmp_eq (pc := 74) (tgt := 113) (kx_dd d_Th_listLikes 47 rfl) rfl (fun c74 => ?_) (fun c74 => ?_)
      · refine kx_iinc_e (pc := 113) (v := nI (k + 1)) (lv' := [_, _, _, _, _]) (kx_dd d_Th_listLikes 68 rfl) rfl (Nat.le_of_ble_eq_true rfl) (nI_1 k) rfl ?_
        refine kx_goto (pc := 116) (tgt := 57) (kx_dd d_Th_listLikes 69 rfl) rfl ?_
        rw [q3, wI_1 (by omega)] at c74
        have e1 : likK s (s.2.2.1 q) (fewK 8 s (s.2.2.1 q) s.1) (k + 1) = (likK s (s.2.2.1 q) (fewK 8 s (s.2.2.1 q) s.1) k) := if_pos (Or.inl c74)
        have ih1 := ih (k + 1) (by omega) h1 hf (by rw [e1]; exact hr)
        rw [e1] at ih1
        exact ih1
      · refine kx_aload_n (pc := 77) (kx_dd d_Th_listLikes 48 rfl) rfl rfl ?_
        refine kx_getR (pc := 78) (b := 36) fl_Th_15 (hs.k 34 rfl) rfl (hs.r 38 rfl) (kx_dd d_Th_listLikes 49 rfl) ?_
        refine kx_iload (pc := 81) (kx_dd d_Th_listLikes 50 rfl) rfl ?_
        refine kx_ialdn (pc := 83) k (hs.t 36 rfl) rfl (by omega) (by decide) (kx_dd d_Th_listLikes 51 rfl) ?_
        refine kx_aload_n (pc := 84) (kx_dd d_Th_listLikes 52 rfl) rfl rfl ?_
        refine kx_getR (pc := 85) (b := 36) fl_Th_15 (hs.k 34 rfl) rfl (hs.r 38 rfl) (kx_dd d_Th_listLikes 53 rfl) ?_
        refine kx_iload_n (pc := 88) (kx_dd d_Th_listLikes 54 rfl) rfl rfl ?_
        refine kx_ialdn (pc := 89) q (hs.t 36 rfl) rfl (by omega) (by decide) (kx_dd d_Th_listLikes 55 rfl) ?_
        refine kx_ixor (pc := 90) (kx_dd d_Th_listLikes 56 rfl) ?_
        rw [q2, t2, nI_xor]
        refine kx_invS (pc := 91) (as := [_]) (kx_dd d_Th_listLikes 57 rfl) ⟨lk_Th_45, wt_In_bitCount⟩ w_In_bitCount rfl rfl (Nat.le_of_ble_eq_true rfl) (x_In_bitCount (d := d + 1) (s.2.2.1 k ^^^ s.2.2.1 q) (by omega)) (Nat.le_refl _) ⟨Nat.le_refl _, Nat.le_refl _⟩ (fun v h' hq => ?_)
        obtain ⟨rfl, he⟩ := hq
        rw [he]
        clear he
        refine kx_iload_n (pc := 94) (kx_dd d_Th_listLikes 58 rfl) rfl rfl ?_
        refine kx_icmp_ne (pc := 95) (tgt := 113) (kx_dd d_Th_listLikes 59 rfl) rfl (fun c95 => ?_) (fun c95 => ?_)
        · refine kx_iinc_e (pc := 113) (v := nI (k + 1)) (lv' := [_, _, _, _, _]) (kx_dd d_Th_listLikes 68 rfl) rfl (Nat.le_of_ble_eq_true rfl) (nI_1 k) rfl ?_
          refine kx_goto (pc := 116) (tgt := 57) (kx_dd d_Th_listLikes 69 rfl) rfl ?_
          rw [nI_eq (by omega) (by omega)] at c95
          have e1 : likK s (s.2.2.1 q) (fewK 8 s (s.2.2.1 q) s.1) (k + 1) = (likK s (s.2.2.1 q) (fewK 8 s (s.2.2.1 q) s.1) k) := if_pos (Or.inr c95)
          have ih1 := ih (k + 1) (by omega) h1 hf (by rw [e1]; exact hr)
          rw [e1] at ih1
          exact ih1
        · refine kx_aload_n (pc := 98) (kx_dd d_Th_listLikes 60 rfl) rfl rfl ?_
          refine kx_aload_n (pc := 99) (kx_dd d_Th_listLikes 61 rfl) rfl rfl ?_
          refine kx_getR (pc := 100) (b := 37) fl_Th_18 (hs.k 34 rfl) rfl (hs.r 39 rfl) (kx_dd d_Th_listLikes 62 rfl) ?_
          refine kx_iload (pc := 103) (kx_dd d_Th_listLikes 63 rfl) rfl ?_
          refine kx_ialdn (pc := 105) k (hs.t 37 rfl) rfl (by omega) (by decide) (kx_dd d_Th_listLikes 64 rfl) ?_
          rw [q3, wI_n (show ¬ s.2.2.2 k = 0 from fun e => c74 (by rw [q3, e]; rfl))]
          refine kx_iload_n (pc := 106) (kx_dd d_Th_listLikes 65 rfl) rfl rfl ?_
          refine kx_invV (pc := 107) (a := 34) (as := [_, _]) (kx_dd d_Th_listLikes 66 rfl) ⟨lk_Th_50, wi_Th_insert, we_Th_insert⟩ w_Th_insert (hs.k 34 rfl) rfl rfl rfl rfl (Nat.le_of_ble_eq_true rfl) (x_Th_insert (d := d) hs (s.2.2.2 k) (likK s (s.2.2.1 q) (fewK 8 s (s.2.2.1 q) s.1) k).1 o1.2.2 (by omega) (likK s (s.2.2.1 q) (fewK 8 s (s.2.2.1 q) s.1) k).2 ol.2 (fun j hj => hr j (by split <;> omega))) (Nat.le_refl _) ⟨Nat.le_refl _, Nat.le_refl _⟩ (fun v h' hq => ?_)
          obtain ⟨rfl, hq⟩ := hq
          refine kx_iinc_e (pc := 110) (v := nI ((likK s (s.2.2.1 q) (fewK 8 s (s.2.2.1 q) s.1) k).1 + 1)) (lv' := [_, _, _, _, _]) (kx_dd d_Th_listLikes 67 rfl) rfl (Nat.le_of_ble_eq_true rfl) (nI_1 _) rfl ?_
          refine kx_iinc_e (pc := 113) (v := nI (k + 1)) (lv' := [_, _, _, _, _]) (kx_dd d_Th_listLikes 68 rfl) rfl (Nat.le_of_ble_eq_true rfl) (nI_1 k) rfl ?_
          refine kx_goto (pc := 116) (tgt := 57) (kx_dd d_Th_listLikes 69 rfl) rfl ?_
          rw [q3, wI_1 (by omega)] at c74
          rw [nI_eq (by omega) (by omega)] at c95
          have e1 : likK s (s.2.2.1 q) (fewK 8 s (s.2.2.1 q) s.1) (k + 1) = ((likK s (s.2.2.1 q) (fewK 8 s (s.2.2.1 q) s.1) k).1 + 1, insF (likK s (s.2.2.1 q) (fewK 8 s (s.2.2.1 q) s.1) k).2 (s.2.2.2 k) (likK s (s.2.2.1 q) (fewK 8 s (s.2.2.1 q) s.1) k).1) := if_neg (by simp [c74, c95])
          have ih1 := ih (k + 1) (by omega) h' (hf.tr hq.2) (by rw [e1]; intro j hj; exact hq.1 j (by simp only at hj; split at hj <;> omega))
          rw [e1] at ih1
          exact ih1
theorem x_Th_listLikes {l : Launch} {g : kx_G} {d : Nat} {h : kx_Mem} (hs : SC h) (s : TS) (ho : TSok s) (hp : TSc s h) (q : Nat) (hqq : q < s.1) : kx_Sp l g m_Th_listLikes [.ref 34, .int (nI q)] h (d + 2) 0 0 (fun v h' => v = some (.int (nI (likF s q).1)) ∧ (∀ j, j < (likF s q).1 → h'.1 38 j = nI ((likF s q).2 j)) ∧ kx_Fr [38] h h') := by
  have o0 := ho.1
  have o1 := ho.2 q hqq
  refine kx_enter_e (lv := [_, _, _, _, _]) (by decide +kernel) (Nat.le_of_ble_eq_true rfl) rfl ?_
  refine kx_aload_n (pc := 0) (kx_dd d_Th_listLikes 0 rfl) rfl rfl ?_
  refine kx_getR (pc := 1) (b := 38) fl_Th_21 (hs.k 34 rfl) rfl (hs.r 40 rfl) (kx_dd d_Th_listLikes 1 rfl) ?_
  refine kx_iconst (pc := 4) (v := 0) (kx_dd d_Th_listLikes 2 rfl) rfl ?_
  refine kx_iconst (pc := 5) (v := 0) (kx_dd d_Th_listLikes 3 rfl) rfl ?_
  refine kx_iastn (pc := 6) 0 (hs.t 38 rfl) (by decide) rfl (by omega) (by decide) (kx_dd d_Th_listLikes 4 rfl) ?_
  have hf0 : kx_Fr [38] h (kx_setI h 38 0 0) := kx_Fr.set (by simp)
  have hs := hs.fr hf0
  have hp := hp.fr hf0 (by intro a ha; simp at ha ⊢; omega)
  obtain ⟨t1, t2, t3⟩ := hp.2 q hqq
  refine kx_aload_n (pc := 7) (kx_dd d_Th_listLikes 5 rfl) rfl rfl ?_
  refine kx_iload_n (pc := 8) (kx_dd d_Th_listLikes 6 rfl) rfl rfl ?_
  refine kx_invV (pc := 9) (a := 34) (as := [_]) (kx_dd d_Th_listLikes 7 rfl) ⟨lk_Th_28, wi_Th_has, we_Th_has⟩ w_Th_has (hs.k 34 rfl) rfl rfl rfl rfl (Nat.le_of_ble_eq_true rfl) (x_Th_has (d := d + 1) hs (nI q)) (Nat.le_refl _) ⟨Nat.le_refl _, Nat.le_refl _⟩ (fun v h' hq => ?_)
  obtain ⟨rfl, he⟩ := hq
  rw [he, bP_t ⟨nI_pos' (by omega), by rw [hp.1]; exact nI_lt (by omega) (by omega)⟩]
  clear he
  refine kx_if_ne (pc := 12) (tgt := 17) (kx_dd d_Th_listLikes 8 rfl) rfl (fun _ => ?_) (fun c12 => absurd c12 (by decide))
  refine kx_aload_n (pc := 17) (kx_dd d_Th_listLikes 11 rfl) rfl rfl ?_
  refine kx_getR (pc := 18) (b := 37) fl_Th_18 (hs.k 34 rfl) rfl (hs.r 39 rfl) (kx_dd d_Th_listLikes 12 rfl) ?_
  refine kx_iload_n (pc := 21) (kx_dd d_Th_listLikes 13 rfl) rfl rfl ?_
  refine kx_ialdn (pc := 22) q (hs.t 37 rfl) rfl (by omega) (by decide) (kx_dd d_Th_listLikes 14 rfl) ?_
  refine kx_iconst (pc := 23) (v := -1) (kx_dd d_Th_listLikes 15 rfl) rfl ?_
  refine kx_icmp_eq (pc := 24) (tgt := 41) (kx_dd d_Th_listLikes 16 rfl) rfl (fun c24 => ?_) (fun c24 => ?_)
  · refine kx_aload_n (pc := 41) (kx_dd d_Th_listLikes 27 rfl) rfl rfl ?_
    refine kx_aload_n (pc := 42) (kx_dd d_Th_listLikes 28 rfl) rfl rfl ?_
    refine kx_getR (pc := 43) (b := 36) fl_Th_15 (hs.k 34 rfl) rfl (hs.r 38 rfl) (kx_dd d_Th_listLikes 29 rfl) ?_
    refine kx_iload_n (pc := 46) (kx_dd d_Th_listLikes 30 rfl) rfl rfl ?_
    refine kx_ialdn (pc := 47) q (hs.t 36 rfl) rfl (by omega) (by decide) (kx_dd d_Th_listLikes 31 rfl) ?_
    rw [t2]
    refine kx_invV (pc := 48) (a := 34) (as := [_]) (kx_dd d_Th_listLikes 32 rfl) ⟨lk_Th_42, wi_Th_fewestUnlike, we_Th_fewestUnlike⟩ w_Th_fewestUnlike (hs.k 34 rfl) rfl rfl rfl rfl (Nat.le_of_ble_eq_true rfl) (x_Th_fewestUnlike (d := d) hs s ho hp (s.2.2.1 q) (by omega)) (Nat.le_refl _) ⟨Nat.le_refl _, Nat.le_refl _⟩ (fun v h' hq => ?_)
    obtain ⟨rfl, he⟩ := hq
    rw [he]
    clear he
    refine kx_istore_ne (pc := 51) (lv' := [_, _, _, _, _]) (kx_dd d_Th_listLikes 33 rfl) rfl (Nat.le_of_ble_eq_true rfl) rfl ?_
    refine kx_iconst (pc := 52) (v := 0) (kx_dd d_Th_listLikes 34 rfl) rfl ?_
    refine kx_istore_ne (pc := 53) (lv' := [_, _, _, _, _]) (kx_dd d_Th_listLikes 35 rfl) rfl (Nat.le_of_ble_eq_true rfl) rfl ?_
    refine kx_iconst (pc := 54) (v := 0) (kx_dd d_Th_listLikes 36 rfl) rfl ?_
    refine kx_istore_e (pc := 55) (lv' := [_, _, _, _, _]) (kx_dd d_Th_listLikes 37 rfl) (Nat.le_of_ble_eq_true rfl) rfl ?_
    rw [t3, wI_1 (by omega)] at c24
    refine kx_mono (fun v h' hq => ?_) (x_Th_list_loop hs s ho hp q hqq c24 s.1 0 (by omega) _ kx_Fr.rf (fun j hj => ?_))
    · exact ⟨hq.1, hq.2.1, hf0.tr hq.2.2⟩
    · simp only [likK] at hj ⊢
      rw [show j = 0 by simp at hj; omega]
      simp [kx_setI, kx_up, nI_0]
  · refine kx_aload_n (pc := 27) (kx_dd d_Th_listLikes 17 rfl) rfl rfl ?_
    refine kx_getR (pc := 28) (b := 38) fl_Th_21 (hs.k 34 rfl) rfl (hs.r 40 rfl) (kx_dd d_Th_listLikes 18 rfl) ?_
    refine kx_iconst (pc := 31) (v := 0) (kx_dd d_Th_listLikes 19 rfl) rfl ?_
    refine kx_aload_n (pc := 32) (kx_dd d_Th_listLikes 20 rfl) rfl rfl ?_
    refine kx_getR (pc := 33) (b := 37) fl_Th_18 (hs.k 34 rfl) rfl (hs.r 39 rfl) (kx_dd d_Th_listLikes 21 rfl) ?_
    refine kx_iload_n (pc := 36) (kx_dd d_Th_listLikes 22 rfl) rfl rfl ?_
    refine kx_ialdn (pc := 37) q (hs.t 37 rfl) rfl (by omega) (by decide) (kx_dd d_Th_listLikes 23 rfl) ?_
    refine kx_iastn (pc := 38) 0 (hs.t 38 rfl) (by decide) rfl (by omega) (by decide) (kx_dd d_Th_listLikes 24 rfl) ?_
    refine kx_iconst (pc := 39) (v := 1) (kx_dd d_Th_listLikes 25 rfl) rfl ?_
    refine kx_iret (pc := 40) rfl (kx_dd d_Th_listLikes 26 rfl) (Nat.le_refl _) (Nat.le_refl _) ?_
    rw [t3, wI_n (show ¬ s.2.2.2 q = 0 from fun e => c24 (by rw [t3, e]; rfl))]
    have e : ¬ s.2.2.2 q = 0 := fun e => c24 (by rw [t3, e]; rfl)
    refine ⟨?_, fun j hj => ?_, (kx_Fr.set (by simp)).tr (kx_Fr.set (by simp))⟩
    · unfold likF; rw [if_neg e]; rfl
    · unfold likF at hj ⊢
      rw [if_neg e] at hj ⊢
      simp only at hj ⊢
      rw [show j = 0 by omega]
      simp [kx_setI, kx_up]
theorem x_Th_worthOf {l : Launch} {g : kx_G} {d : Nat} {h : kx_Mem} (hs : SC h) (s : TS) (ho : TSok s) (hp : TSc s h) (q : Nat) (hqq : q < s.1) : kx_Sp l g m_Th_worthOf [.ref 34, .int (nI q)] h (d + 3) 0 0 (fun v h' => v = some (.int (nI (worF s q))) ∧ kx_Fr [38] h h') := by
  have ol := likF_le ho hqq
  refine kx_enter_e (lv := [_, _]) (by decide +kernel) (Nat.le_of_ble_eq_true rfl) rfl ?_
  refine kx_aload_n (pc := 0) (kx_dd d_Th_worthOf 0 rfl) rfl rfl ?_
  refine kx_aload_n (pc := 1) (kx_dd d_Th_worthOf 1 rfl) rfl rfl ?_
  refine kx_iload_n (pc := 2) (kx_dd d_Th_worthOf 2 rfl) rfl rfl ?_
  refine kx_invV (pc := 3) (a := 34) (as := [_]) (kx_dd d_Th_worthOf 3 rfl) ⟨lk_Th_32, wi_Th_listLikes, we_Th_listLikes⟩ w_Th_listLikes (hs.k 34 rfl) rfl rfl rfl rfl (Nat.le_of_ble_eq_true rfl) (x_Th_listLikes (d := d) hs s ho hp q hqq) (Nat.le_refl _) ⟨Nat.le_refl _, Nat.le_refl _⟩ (fun v h' hq => ?_)
  obtain ⟨rfl, hq⟩ := hq
  have hs := hs.fr hq.2
  refine kx_iconst (pc := 6) (v := 1) (kx_dd d_Th_worthOf 4 rfl) rfl ?_
  refine kx_isub (pc := 7) (kx_dd d_Th_worthOf 5 rfl) ?_
  refine kx_iconst (pc := 8) (v := 2) (kx_dd d_Th_worthOf 6 rfl) rfl ?_
  refine kx_idiv (pc := 9) (kx_dd d_Th_worthOf 7 rfl) (by decide) ?_
  rw [nI_m1' (by omega), show nI ((likF s q).1 - 1) / 2 = nI (((likF s q).1 - 1) / 2) from pk_div (d := 2) (by omega) (by decide) (by decide)]
  have hq9 := hq
  refine kx_invV (pc := 10) (a := 34) (as := [_]) (kx_dd d_Th_worthOf 8 rfl) ⟨lk_Th_36, wi_Th_likeAt, we_Th_likeAt⟩ w_Th_likeAt (hs.k 34 rfl) rfl rfl rfl rfl (Nat.le_of_ble_eq_true rfl) (x_Th_likeAt (d := d + 2) hs (((likF s q).1 - 1) / 2) (by omega)) (Nat.le_refl _) ⟨Nat.le_refl _, Nat.le_refl _⟩ (fun v h' hq => ?_)
  obtain ⟨rfl, he⟩ := hq
  rw [he]
  clear he
  refine kx_iret (pc := 13) rfl (kx_dd d_Th_worthOf 9 rfl) (Nat.le_refl _) (Nat.le_refl _) ?_
  exact ⟨by rw [hq9.1 _ (by omega)]; rfl, hq9.2⟩
/-- what a thing's detail is -/
def detT (s : TS) (q : Nat) (w : Int32) : Int32 :=
  if w = 0 then nI (s.2.1 q) else if w = 1 then nI (s.2.2.1 q) else if w = 2 then nI (worF s q) else if w = 3 then (if s.2.2.2 q = 0 then 0 else 1) else if w = 4 then nI ((likF s q).2 0) else if w = 5 then nI ((likF s q).2 ((likF s q).1 - 1)) else -1
theorem x_Th_detail {l : Launch} {g : kx_G} {d : Nat} {h : kx_Mem} (hs : SC h) (s : TS) (ho : TSok s) (hp : TSc s h) (q : Nat) (hqq : q < s.1) (w : Int32) : kx_Sp l g m_Th_detail [.ref 34, .int (nI q), .int w] h (d + 4) 0 0 (fun v h' => v = some (.int (detT s q w)) ∧ kx_Fr [38] h h') := by
  have o0 := ho.1
  obtain ⟨t1, t2, t3⟩ := hp.2 q hqq
  have o1 := ho.2 q hqq
  have ol := likF_le ho hqq
  refine kx_enter_e (lv := [_, _, _]) (by decide +kernel) (Nat.le_of_ble_eq_true rfl) rfl ?_
  refine kx_aload_n (pc := 0) (kx_dd d_Th_detail 0 rfl) rfl rfl ?_
  refine kx_iload_n (pc := 1) (kx_dd d_Th_detail 1 rfl) rfl rfl ?_
  refine kx_invV (pc := 2) (a := 34) (as := [_]) (kx_dd d_Th_detail 2 rfl) ⟨lk_Th_28, wi_Th_has, we_Th_has⟩ w_Th_has (hs.k 34 rfl) rfl rfl rfl rfl (Nat.le_of_ble_eq_true rfl) (x_Th_has (d := d + 3) hs (nI q)) (Nat.le_refl _) ⟨Nat.le_refl _, Nat.le_refl _⟩ (fun v h' hq => ?_)
  obtain ⟨rfl, he⟩ := hq
  rw [he, bP_t ⟨nI_pos' (by omega), by rw [hp.1]; exact nI_lt (by omega) (by omega)⟩]
  clear he
  refine kx_if_ne (pc := 5) (tgt := 10) (kx_dd d_Th_detail 3 rfl) rfl (fun _ => ?_) (fun c5 => absurd c5 (by decide))
  refine kx_iload_n (pc := 10) (kx_dd d_Th_detail 6 rfl) rfl rfl ?_
  by_cases e11_0 : w = 0
  · refine kx_tableIn (pc := 11) (tgt := 48) (kx_dd d_Th_detail 7 rfl) (by rw [e11_0] <;> decide) (by rw [e11_0] <;> decide) (by rw [e11_0] <;> rfl) rfl ?_
    refine kx_aload_n (pc := 48) (kx_dd d_Th_detail 8 rfl) rfl rfl ?_
    refine kx_getR (pc := 49) (b := 35) fl_Th_11 (hs.k 34 rfl) rfl (hs.r 37 rfl) (kx_dd d_Th_detail 9 rfl) ?_
    refine kx_iload_n (pc := 52) (kx_dd d_Th_detail 10 rfl) rfl rfl ?_
    refine kx_ialdn (pc := 53) q (hs.t 35 rfl) rfl (by omega) (by decide) (kx_dd d_Th_detail 11 rfl) ?_
    refine kx_iret (pc := 54) rfl (kx_dd d_Th_detail 12 rfl) (Nat.le_refl _) (Nat.le_refl _) ?_
    refine ⟨?_, kx_Fr.rf⟩
    unfold detT
    rw [if_pos e11_0]
    rw [t1]
  · skip
    by_cases e11_1 : w = 1
    · refine kx_tableIn (pc := 11) (tgt := 55) (kx_dd d_Th_detail 7 rfl) (by rw [e11_1] <;> decide) (by rw [e11_1] <;> decide) (by rw [e11_1] <;> rfl) rfl ?_
      refine kx_aload_n (pc := 55) (kx_dd d_Th_detail 13 rfl) rfl rfl ?_
      refine kx_getR (pc := 56) (b := 36) fl_Th_15 (hs.k 34 rfl) rfl (hs.r 38 rfl) (kx_dd d_Th_detail 14 rfl) ?_
      refine kx_iload_n (pc := 59) (kx_dd d_Th_detail 15 rfl) rfl rfl ?_
      refine kx_ialdn (pc := 60) q (hs.t 36 rfl) rfl (by omega) (by decide) (kx_dd d_Th_detail 16 rfl) ?_
      refine kx_iret (pc := 61) rfl (kx_dd d_Th_detail 17 rfl) (Nat.le_refl _) (Nat.le_refl _) ?_
      refine ⟨?_, kx_Fr.rf⟩
      unfold detT
      rw [if_neg e11_0, if_pos e11_1]
      rw [t2]
    · skip
      by_cases e11_2 : w = 2
      · refine kx_tableIn (pc := 11) (tgt := 62) (kx_dd d_Th_detail 7 rfl) (by rw [e11_2] <;> decide) (by rw [e11_2] <;> decide) (by rw [e11_2] <;> rfl) rfl ?_
        refine kx_aload_n (pc := 62) (kx_dd d_Th_detail 18 rfl) rfl rfl ?_
        refine kx_iload_n (pc := 63) (kx_dd d_Th_detail 19 rfl) rfl rfl ?_
        refine kx_invV (pc := 64) (a := 34) (as := [_]) (kx_dd d_Th_detail 20 rfl) ⟨lk_Th_39, wi_Th_worthOf, we_Th_worthOf⟩ w_Th_worthOf (hs.k 34 rfl) rfl rfl rfl rfl (Nat.le_of_ble_eq_true rfl) (x_Th_worthOf (d := d) hs s ho hp q hqq) (Nat.le_refl _) ⟨Nat.le_refl _, Nat.le_refl _⟩ (fun v h' hq => ?_)
        obtain ⟨rfl, hq9⟩ := hq
        refine kx_iret (pc := 67) rfl (kx_dd d_Th_detail 21 rfl) (Nat.le_refl _) (Nat.le_refl _) ?_
        refine ⟨?_, hq9⟩
        unfold detT
        rw [if_neg e11_0, if_neg e11_1, if_pos e11_2]
      · skip
        by_cases e11_3 : w = 3
        · refine kx_tableIn (pc := 11) (tgt := 68) (kx_dd d_Th_detail 7 rfl) (by rw [e11_3] <;> decide) (by rw [e11_3] <;> decide) (by rw [e11_3] <;> rfl) rfl ?_
          refine kx_aload_n (pc := 68) (kx_dd d_Th_detail 22 rfl) rfl rfl ?_
          refine kx_getR (pc := 69) (b := 37) fl_Th_18 (hs.k 34 rfl) rfl (hs.r 39 rfl) (kx_dd d_Th_detail 23 rfl) ?_
          refine kx_iload_n (pc := 72) (kx_dd d_Th_detail 24 rfl) rfl rfl ?_
          refine kx_ialdn (pc := 73) q (hs.t 37 rfl) rfl (by omega) (by decide) (kx_dd d_Th_detail 25 rfl) ?_
          refine kx_iconst (pc := 74) (v := -1) (kx_dd d_Th_detail 26 rfl) rfl ?_
          refine kx_icmp_ne (pc := 75) (tgt := 82) (kx_dd d_Th_detail 27 rfl) rfl (fun c75 => ?_) (fun c75 => ?_)
          · refine kx_iconst (pc := 82) (v := 1) (kx_dd d_Th_detail 30 rfl) rfl ?_
            refine kx_iret (pc := 83) rfl (kx_dd d_Th_detail 31 rfl) (Nat.le_refl _) (Nat.le_refl _) ?_
            rw [t3, wI_1 (by omega)] at c75
            refine ⟨?_, kx_Fr.rf⟩
            unfold detT
            rw [if_neg e11_0, if_neg e11_1, if_neg e11_2, if_pos e11_3]
            rw [if_neg c75]
          · refine kx_iconst (pc := 78) (v := 0) (kx_dd d_Th_detail 28 rfl) rfl ?_
            refine kx_goto (pc := 79) (tgt := 83) (kx_dd d_Th_detail 29 rfl) rfl ?_
            refine kx_iret (pc := 83) rfl (kx_dd d_Th_detail 31 rfl) (Nat.le_refl _) (Nat.le_refl _) ?_
            rw [t3, wI_1 (by omega)] at c75
            refine ⟨?_, kx_Fr.rf⟩
            unfold detT
            rw [if_neg e11_0, if_neg e11_1, if_neg e11_2, if_pos e11_3]
            rw [if_pos c75]
        · skip
          by_cases e11_4 : w = 4
          · refine kx_tableIn (pc := 11) (tgt := 84) (kx_dd d_Th_detail 7 rfl) (by rw [e11_4] <;> decide) (by rw [e11_4] <;> decide) (by rw [e11_4] <;> rfl) rfl ?_
            refine kx_aload_n (pc := 84) (kx_dd d_Th_detail 32 rfl) rfl rfl ?_
            refine kx_iload_n (pc := 85) (kx_dd d_Th_detail 33 rfl) rfl rfl ?_
            refine kx_invV (pc := 86) (a := 34) (as := [_]) (kx_dd d_Th_detail 34 rfl) ⟨lk_Th_32, wi_Th_listLikes, we_Th_listLikes⟩ w_Th_listLikes (hs.k 34 rfl) rfl rfl rfl rfl (Nat.le_of_ble_eq_true rfl) (x_Th_listLikes (d := d + 1) hs s ho hp q hqq) (Nat.le_refl _) ⟨Nat.le_refl _, Nat.le_refl _⟩ (fun v h' hq => ?_)
            obtain ⟨rfl, hq⟩ := hq
            have hs := hs.fr hq.2
            have hq9 := hq
            refine kx_pop (pc := 89) (kx_dd d_Th_detail 35 rfl) rfl ?_
            refine kx_aload_n (pc := 90) (kx_dd d_Th_detail 36 rfl) rfl rfl ?_
            refine kx_iconst (pc := 91) (v := 0) (kx_dd d_Th_detail 37 rfl) rfl ?_
            refine kx_invV (pc := 92) (a := 34) (as := [_]) (kx_dd d_Th_detail 38 rfl) ⟨lk_Th_36, wi_Th_likeAt, we_Th_likeAt⟩ w_Th_likeAt (hs.k 34 rfl) rfl rfl rfl rfl (Nat.le_of_ble_eq_true rfl) (x_Th_likeAt (d := d + 3) hs 0 (by omega)) (Nat.le_refl _) ⟨Nat.le_refl _, Nat.le_refl _⟩ (fun v h' hq => ?_)
            obtain ⟨rfl, he⟩ := hq
            rw [he]
            clear he
            refine kx_iret (pc := 95) rfl (kx_dd d_Th_detail 39 rfl) (Nat.le_refl _) (Nat.le_refl _) ?_
            refine ⟨?_, hq9.2⟩
            unfold detT
            rw [if_neg e11_0, if_neg e11_1, if_neg e11_2, if_neg e11_3, if_pos e11_4]
            rw [hq9.1 0 (by omega)]
          · skip
            by_cases e11_5 : w = 5
            · refine kx_tableIn (pc := 11) (tgt := 96) (kx_dd d_Th_detail 7 rfl) (by rw [e11_5] <;> decide) (by rw [e11_5] <;> decide) (by rw [e11_5] <;> rfl) rfl ?_
              refine kx_aload_n (pc := 96) (kx_dd d_Th_detail 40 rfl) rfl rfl ?_
              refine kx_aload_n (pc := 97) (kx_dd d_Th_detail 41 rfl) rfl rfl ?_
              refine kx_iload_n (pc := 98) (kx_dd d_Th_detail 42 rfl) rfl rfl ?_
              refine kx_invV (pc := 99) (a := 34) (as := [_]) (kx_dd d_Th_detail 43 rfl) ⟨lk_Th_32, wi_Th_listLikes, we_Th_listLikes⟩ w_Th_listLikes (hs.k 34 rfl) rfl rfl rfl rfl (Nat.le_of_ble_eq_true rfl) (x_Th_listLikes (d := d + 1) hs s ho hp q hqq) (Nat.le_refl _) ⟨Nat.le_refl _, Nat.le_refl _⟩ (fun v h' hq => ?_)
              obtain ⟨rfl, hq⟩ := hq
              have hs := hs.fr hq.2
              have hq9 := hq
              refine kx_iconst (pc := 102) (v := 1) (kx_dd d_Th_detail 44 rfl) rfl ?_
              refine kx_isub (pc := 103) (kx_dd d_Th_detail 45 rfl) ?_
              rw [nI_m1' (by omega)]
              refine kx_invV (pc := 104) (a := 34) (as := [_]) (kx_dd d_Th_detail 46 rfl) ⟨lk_Th_36, wi_Th_likeAt, we_Th_likeAt⟩ w_Th_likeAt (hs.k 34 rfl) rfl rfl rfl rfl (Nat.le_of_ble_eq_true rfl) (x_Th_likeAt (d := d + 3) hs ((likF s q).1 - 1) (by omega)) (Nat.le_refl _) ⟨Nat.le_refl _, Nat.le_refl _⟩ (fun v h' hq => ?_)
              obtain ⟨rfl, he⟩ := hq
              rw [he]
              clear he
              refine kx_iret (pc := 107) rfl (kx_dd d_Th_detail 47 rfl) (Nat.le_refl _) (Nat.le_refl _) ?_
              refine ⟨?_, hq9.2⟩
              unfold detT
              rw [if_neg e11_0, if_neg e11_1, if_neg e11_2, if_neg e11_3, if_neg e11_4, if_pos e11_5]
              rw [hq9.1 _ (by omega)]
            · skip
              refine kx_tableOut (pc := 11) (tgt := 108) (kx_dd d_Th_detail 7 rfl) (by have y0 := lv_neT (a := 0) e11_0 (by decide); have y1 := lv_neT (a := 1) e11_1 (by decide); have y2 := lv_neT (a := 2) e11_2 (by decide); have y3 := lv_neT (a := 3) e11_3 (by decide); have y4 := lv_neT (a := 4) e11_4 (by decide); have y5 := lv_neT (a := 5) e11_5 (by decide); omega) rfl ?_
              refine kx_iconst (pc := 108) (v := -1) (kx_dd d_Th_detail 48 rfl) rfl ?_
              refine kx_iret (pc := 109) rfl (kx_dd d_Th_detail 49 rfl) (Nat.le_refl _) (Nat.le_refl _) ?_
              refine ⟨?_, kx_Fr.rf⟩
              unfold detT
              rw [if_neg e11_0, if_neg e11_1, if_neg e11_2, if_neg e11_3, if_neg e11_4, if_neg e11_5]
