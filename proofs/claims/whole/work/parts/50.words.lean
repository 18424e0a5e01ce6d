/-! the reference: its words -/
def WTm (n : Nat) (T : Nat → Nat) (h : kx_Mem) : Prop := h.1 84 2 = nI n ∧ ∀ w, w < n → ∃ m, h.1 86 w = nI m ∧ 1 ≤ m ∧ m ≤ 12 ∧ (∀ j, j < m → isLe (h.1 85 (12 * w + j)) = true) ∧ T w = wc (h.1 85) (12 * w) m
noncomputable def waF (n : Nat) (T : Nat → Nat) (c : Nat) : Nat × (Nat → Nat) := @ite _ (∃ j, j < n ∧ T j = c) (Classical.propDecidable _) (n, T) (n + 1, upF T n c)
theorem waF_y {n : Nat} {T : Nat → Nat} {c j : Nat} (hj : j < n) (e : T j = c) : waF n T c = (n, T) := if_pos ⟨j, hj, e⟩
theorem waF_n {n : Nat} {T : Nat → Nat} {c : Nat} (h : ∀ j, j < n → T j ≠ c) : waF n T c = (n + 1, upF T n c) := if_neg (fun ⟨j, hj, e⟩ => h j hj e)
def Fw (a j : Nat) : Prop := a = 85 ∨ a = 86 ∨ (a = 84 ∧ j = 2)
theorem narB {b : Nat → Int32} (hby : BY b) (k : Nat) : vp_nar .byte (b k) = b k := hby k
theorem setI_at {h : kx_Mem} {a j : Nat} {v : Int32} : (kx_setI h a j v).1 a j = v := by simp [kx_setI, kx_up]
theorem setI_ne {h : kx_Mem} {a j b k : Nat} {v : Int32} (hn : b ≠ a ∨ k ≠ j) : (kx_setI h a j v).1 b k = h.1 b k := by
  show kx_up h.1 a j v b k = _
  unfold kx_up
  split
  next e =>
    rw [if_neg (fun z => by rcases hn with q | q; exact q e; exact q z)]
  next => rfl
theorem wc_eqF {b c : Nat → Int32} {p q : Nat} : ∀ k, (∀ j, j < k → b (p + j) = c (q + j)) → wc b p k = wc c q k
  | 0, _ => rfl
  | k + 1, h => by
    simp only [wc]
    rw [wc_eqF k (fun j hj => h j (by omega)), h k (by omega)]
theorem y_wo_cp {l : Launch} {g : kx_G} {d : Nat} {h0 : kx_Mem} (hm0 : SM h0) (b : Nat → Int32) (n : Nat) (ht0 : TapM b n h0) (hby : BY b) (nw : Nat) (T : Nat → Nat) (hwt : WTok nw T) (hwm0 : WTm nw T h0) (hnw : nw < 2000) (p9 m : Nat) (hm1 : 1 ≤ m) (hm12 : m ≤ 12) (hpn : p9 + m ≤ n) (hle : ∀ j, j < m → isLe (b (p9 + j)) = true) (hno : ∀ j, j < nw → T j ≠ (wc b p9 m)) : ∀ f k, k + f = m → ∀ h w4 w5, kx_Fc (fun a j => a = 85 ∧ 12 * nw ≤ j) h0 h → (∀ j, j < k → h.1 85 (12 * nw + j) = b (p9 + j)) → kx_X (l, g, m_Mo_wordOf, d, 0, 0, (fun v h' => ∃ j, v = some (.int (nI j)) ∧ j < (waF nw T (wc b p9 m)).1 ∧ (waF nw T (wc b p9 m)).2 j = (wc b p9 m) ∧ WTm (waF nw T (wc b p9 m)).1 (waF nw T (wc b p9 m)).2 h' ∧ kx_Fc Fw h0 h')) 0 0 97 [some (.ref 84), some (.int (nI p9)), some (.int (nI (p9 + m))), some (.int (nI k)), w4, w5] [] h := by
  have hn6 := ht0.2.1
  have hn2 := hwt.1
  have ewa := waF_n hno
  intro f
  induction f with
  | zero =>
    intro k hk h w4 w5 hf hz
    have hk0 : k = m := by omega
    subst hk0
    have hm := hm0.fc hf
    have e2 : h.1 84 2 = nI nw := (hf.2 84 2 (by simp)).trans hwm0.1
    have e88 : ∀ j, h.1 88 j = h0.1 88 j := fun j => hf.2 88 j (by simp)
    have e86 : h.1 86 = h0.1 86 := by funext j; exact hf.2 86 j (by simp)

    refine kx_iload_n (pc := 97) (kx_dd d_Mo_wordOf 56 rfl) rfl rfl ?_
    refine kx_iload_n (pc := 98) (kx_dd d_Mo_wordOf 57 rfl) rfl rfl ?_
    refine kx_iload_n (pc := 99) (kx_dd d_Mo_wordOf 58 rfl) rfl rfl ?_
    refine kx_isub (pc := 100) (kx_dd d_Mo_wordOf 59 rfl) ?_
    refine kx_icmp_ge (pc := 101) (tgt := 132) (kx_dd d_Mo_wordOf 60 rfl) rfl (fun c101 => ?_) (fun c101 => ?_)
    · refine kx_aload_n (pc := 132) (kx_dd d_Mo_wordOf 78 rfl) rfl rfl ?_
      refine kx_getR (pc := 133) (b := 86) fl_Mo_13 (hm.k 0 rfl) rfl (hm.r 1 rfl) (kx_dd d_Mo_wordOf 79 rfl) ?_
      refine kx_aload_n (pc := 136) (kx_dd d_Mo_wordOf 80 rfl) rfl rfl ?_
      refine kx_getI (pc := 137) fl_Mo_9 (hm.k 0 rfl) rfl (kx_dd d_Mo_wordOf 81 rfl) ?_
      refine kx_iload_n (pc := 140) (kx_dd d_Mo_wordOf 82 rfl) rfl rfl ?_
      refine kx_iload_n (pc := 141) (kx_dd d_Mo_wordOf 83 rfl) rfl rfl ?_
      refine kx_isub (pc := 142) (kx_dd d_Mo_wordOf 84 rfl) ?_
      refine kx_iastn (pc := 143) nw (hm.t 2 rfl) (by decide) e2 (by omega) (by decide) (kx_dd d_Mo_wordOf 85 rfl) ?_
      refine kx_aload_n (pc := 144) (kx_dd d_Mo_wordOf 86 rfl) rfl rfl ?_
      refine kx_dup (pc := 145) (kx_dd d_Mo_wordOf 87 rfl) rfl ?_
      refine kx_getI (pc := 146) fl_Mo_9 (hm.k 0 rfl) rfl (kx_dd d_Mo_wordOf 88 rfl) ?_
      refine kx_iconst (pc := 149) (v := 1) (kx_dd d_Mo_wordOf 89 rfl) rfl ?_
      refine kx_iadd (pc := 150) (kx_dd d_Mo_wordOf 90 rfl) ?_
      refine kx_putI (pc := 151) fl_Mo_9 (hm.k 0 rfl) (by decide) rfl rfl (kx_dd d_Mo_wordOf 91 rfl) ?_
      refine kx_aload_n (pc := 154) (kx_dd d_Mo_wordOf 92 rfl) rfl rfl ?_
      refine kx_getI (pc := 155) fl_Mo_9 (hm.k 0 rfl) rfl (kx_dd d_Mo_wordOf 93 rfl) ?_
      refine kx_iconst (pc := 158) (v := 1) (kx_dd d_Mo_wordOf 94 rfl) rfl ?_
      refine kx_isub (pc := 159) (kx_dd d_Mo_wordOf 95 rfl) ?_
      refine kx_iret (pc := 160) rfl (kx_dd d_Mo_wordOf 96 rfl) (Nat.le_refl _) (Nat.le_refl _) ?_
      rw [ewa]
      have ek : nI (p9 + k) - nI p9 = nI k := by rw [pk_sub (by omega)]; congr 1; omega
      refine ⟨nw, ?_, by omega, ?_, ?_, ?_⟩
      · rw [setI_at, setI_ne (Or.inl (by decide)), e2, Int32.add_sub_cancel]
      · exact if_pos rfl
      · refine ⟨?_, fun w hw => ?_⟩
        · rw [setI_at, setI_ne (Or.inl (by decide)), e2, nI_1]
        · have eA : ∀ j, (kx_setI (kx_setI h 86 nw (nI (p9 + k) - nI p9)) 84 2 ((kx_setI h 86 nw (nI (p9 + k) - nI p9)).1 84 2 + 1)).1 85 j = h.1 85 j := fun j => by simp [kx_setI, kx_up]
          have eA9 : (kx_setI (kx_setI h 86 nw (nI (p9 + k) - nI p9)) 84 2 ((kx_setI h 86 nw (nI (p9 + k) - nI p9)).1 84 2 + 1)).1 85 = h.1 85 := funext eA
          rw [eA9]
          by_cases ew : w = nw
          · subst ew
            refine ⟨k, ?_, hm1, hm12, fun j hj => ?_, ?_⟩
            · simp [kx_setI, kx_up, ek]
            · rw [hz j hj]; exact hle j hj
            · show upF T w (wc b p9 k) w = _
              rw [show upF T w (wc b p9 k) w = wc b p9 k from if_pos rfl]
              exact wc_eqF k (fun j hj => (hz j hj).symm)
          · obtain ⟨m9, a1, a2, a3, a4, a5⟩ := hwm0.2 w (by have : w < nw + 1 := hw; omega)
            have e85 : ∀ j, j < m9 → h.1 85 (12 * w + j) = h0.1 85 (12 * w + j) := fun j hj => hf.2 85 _ (by have : w < nw + 1 := hw; omega)
            refine ⟨m9, ?_, a2, a3, fun j hj => ?_, ?_⟩
            · simp [kx_setI, kx_up, ew, e86, a1]
            · rw [e85 j hj]; exact a4 j hj
            · show upF T nw (wc b p9 k) w = _
              rw [show upF T nw (wc b p9 k) w = T w from if_neg ew, a5]
              exact wc_eqF m9 (fun j hj => (e85 j hj).symm)
      · exact ((hf.mono (fun a j z => Or.inl z.1)).tr (kx_Fc.set (P := Fw) (Or.inr (Or.inl rfl)))).tr (kx_Fc.set (P := Fw) (Or.inr (Or.inr ⟨rfl, rfl⟩)))
    · exact absurd (by rw [pk_sub (by omega)]; exact nI_le (by omega) (by omega)) c101
  | succ f ih =>
    intro k hk h w4 w5 hf hz
    have hm := hm0.fc hf
    have e2 : h.1 84 2 = nI nw := (hf.2 84 2 (by simp)).trans hwm0.1
    have e88 : ∀ j, h.1 88 j = h0.1 88 j := fun j => hf.2 88 j (by simp)
    have e86 : h.1 86 = h0.1 86 := by funext j; exact hf.2 86 j (by simp)
    refine kx_iload_n (pc := 97) (kx_dd d_Mo_wordOf 56 rfl) rfl rfl ?_
    refine kx_iload_n (pc := 98) (kx_dd d_Mo_wordOf 57 rfl) rfl rfl ?_
    refine kx_iload_n (pc := 99) (kx_dd d_Mo_wordOf 58 rfl) rfl rfl ?_
    refine kx_isub (pc := 100) (kx_dd d_Mo_wordOf 59 rfl) ?_
    refine kx_icmp_ge (pc := 101) (tgt := 132) (kx_dd d_Mo_wordOf 60 rfl) rfl (fun c101 => ?_) (fun c101 => ?_)
    · exact absurd c101 (by rw [pk_sub (by omega)]; exact nI_ge (by omega) (by omega))
    · refine kx_aload_n (pc := 104) (kx_dd d_Mo_wordOf 61 rfl) rfl rfl ?_
      refine kx_getR (pc := 105) (b := 85) fl_Mo_17 (hm.k 0 rfl) rfl (hm.r 0 rfl) (kx_dd d_Mo_wordOf 62 rfl) ?_
      refine kx_bipush (pc := 108) (v := 12) (kx_dd d_Mo_wordOf 63 rfl) rfl ?_
      refine kx_aload_n (pc := 110) (kx_dd d_Mo_wordOf 64 rfl) rfl rfl ?_
      refine kx_getI (pc := 111) fl_Mo_9 (hm.k 0 rfl) rfl (kx_dd d_Mo_wordOf 65 rfl) ?_
      refine kx_imul (pc := 114) (kx_dd d_Mo_wordOf 66 rfl) ?_
      refine kx_iload_n (pc := 115) (kx_dd d_Mo_wordOf 67 rfl) rfl rfl ?_
      refine kx_iadd (pc := 116) (kx_dd d_Mo_wordOf 68 rfl) ?_
      refine kx_aload_n (pc := 117) (kx_dd d_Mo_wordOf 69 rfl) rfl rfl ?_
      refine kx_getR (pc := 118) (b := 88) fl_Mo_21 (hm.k 0 rfl) rfl (hm.r 3 rfl) (kx_dd d_Mo_wordOf 70 rfl) ?_
      refine kx_iload_n (pc := 121) (kx_dd d_Mo_wordOf 71 rfl) rfl rfl ?_
      refine kx_iload_n (pc := 122) (kx_dd d_Mo_wordOf 72 rfl) rfl rfl ?_
      refine kx_iadd (pc := 123) (kx_dd d_Mo_wordOf 73 rfl) ?_
      refine kx_baldn (pc := 124) (p9 + k) (hm.t 4 rfl) (nI_add p9 k) (by omega) (by decide) (kx_dd d_Mo_wordOf 74 rfl) ?_
      refine kx_bastn (pc := 125) (12 * nw + k) (hm.t 1 rfl) (by decide) (by rw [e2]; exact nI_ix 12 nw k) (by omega) (by decide) (kx_dd d_Mo_wordOf 75 rfl) ?_
      refine kx_iinc_e (pc := 126) (v := nI (k + 1)) (lv' := [_, _, _, _, _, _]) (kx_dd d_Mo_wordOf 76 rfl) rfl (Nat.le_of_ble_eq_true rfl) (nI_1 k) rfl ?_
      refine kx_goto (pc := 129) (tgt := 97) (kx_dd d_Mo_wordOf 77 rfl) rfl ?_
      rw [e88, ht0.2.2 _ (by omega), narB hby]
      refine ih (k + 1) (by omega) _ _ _ (hf.tr (kx_Fc.set ⟨rfl, by omega⟩)) (fun j hj => ?_)
      by_cases ej : j = k
      · subst ej; simp [kx_setI, kx_up]
      · have : ¬ 12 * nw + j = 12 * nw + k := by omega
        rw [setI_ne (Or.inr this)]
        exact hz j (by omega)
theorem y_wo_in {l : Launch} {g : kx_G} {d : Nat} {h0 : kx_Mem} (hm0 : SM h0) (b : Nat → Int32) (n : Nat) (ht0 : TapM b n h0) (hby : BY b) (nw : Nat) (T : Nat → Nat) (hwt : WTok nw T) (hwm0 : WTm nw T h0) (hnw : nw < 2000) (p9 m : Nat) (hm1 : 1 ≤ m) (hm12 : m ≤ 12) (hpn : p9 + m ≤ n) (hle : ∀ j, j < m → isLe (b (p9 + j)) = true) (q : Nat) (hq : q < nw) (hsz : h0.1 86 q = nI m) (kont : ∀ x5, kx_X (l, g, m_Mo_wordOf, d, 0, 0, (fun v h' => ∃ j, v = some (.int (nI j)) ∧ j < (waF nw T (wc b p9 m)).1 ∧ (waF nw T (wc b p9 m)).2 j = (wc b p9 m) ∧ WTm (waF nw T (wc b p9 m)).1 (waF nw T (wc b p9 m)).2 h' ∧ kx_Fc Fw h0 h')) 0 0 82 [some (.ref 84), some (.int (nI p9)), some (.int (nI (p9 + m))), some (.int (nI q)), some (.int (bP (T q = (wc b p9 m)))), x5] [] h0) : ∀ f k, k + f = m → kx_X (l, g, m_Mo_wordOf, d, 0, 0, (fun v h' => ∃ j, v = some (.int (nI j)) ∧ j < (waF nw T (wc b p9 m)).1 ∧ (waF nw T (wc b p9 m)).2 j = (wc b p9 m) ∧ WTm (waF nw T (wc b p9 m)).1 (waF nw T (wc b p9 m)).2 h' ∧ kx_Fc Fw h0 h')) 0 0 32 [some (.ref 84), some (.int (nI p9)), some (.int (nI (p9 + m))), some (.int (nI q)), some (.int (bP (∀ j, j < k → h0.1 85 (12 * q + j) = b (p9 + j)))), some (.int (nI k))] [] h0 := by
  have hn6 := ht0.2.1
  have hn2 := hwt.1
  obtain ⟨m9, a1, a2, a3, a4, a5⟩ := hwm0.2 q hq
  have em : m9 = m := by rw [a1, nI_eq (by omega) (by omega)] at hsz; exact hsz
  subst em
  have ei := wc_inj (b := h0.1 85) (c := b) (p := 12 * q) (q := p9) m9 m9 a4 hle
  have hm := hm0
  intro f
  induction f with
  | zero =>
    intro k hk
    have hk0 : k = m9 := by omega
    subst hk0
    refine kx_iload (pc := 32) (kx_dd d_Mo_wordOf 20 rfl) rfl ?_
    refine kx_iload_n (pc := 34) (kx_dd d_Mo_wordOf 21 rfl) rfl rfl ?_
    refine kx_iload_n (pc := 35) (kx_dd d_Mo_wordOf 22 rfl) rfl rfl ?_
    refine kx_isub (pc := 36) (kx_dd d_Mo_wordOf 23 rfl) ?_
    refine kx_icmp_ge (pc := 37) (tgt := 82) (kx_dd d_Mo_wordOf 24 rfl) rfl (fun c37 => ?_) (fun c37 => ?_)
    · have e9 : bP (T q = wc b p9 k) = bP (∀ j, j < k → h0.1 85 (12 * q + j) = b (p9 + j)) := bP_c (by rw [a5, ei]; exact ⟨fun z => z.2, fun z => ⟨rfl, z⟩⟩)
      rw [← e9]
      exact kont _
    · exact absurd (by rw [pk_sub (by omega)]; exact nI_le (by omega) (by omega)) c37
  | succ f ih =>
    intro k hk
    refine kx_iload (pc := 32) (kx_dd d_Mo_wordOf 20 rfl) rfl ?_
    refine kx_iload_n (pc := 34) (kx_dd d_Mo_wordOf 21 rfl) rfl rfl ?_
    refine kx_iload_n (pc := 35) (kx_dd d_Mo_wordOf 22 rfl) rfl rfl ?_
    refine kx_isub (pc := 36) (kx_dd d_Mo_wordOf 23 rfl) ?_
    refine kx_icmp_ge (pc := 37) (tgt := 82) (kx_dd d_Mo_wordOf 24 rfl) rfl (fun c37 => ?_) (fun c37 => ?_)
    · exact absurd c37 (by rw [pk_sub (by omega)]; exact nI_ge (by omega) (by omega))
    · refine kx_iload (pc := 40) (kx_dd d_Mo_wordOf 25 rfl) rfl ?_
      refine kx_if_eq (pc := 42) (tgt := 82) (kx_dd d_Mo_wordOf 26 rfl) rfl (fun c42 => ?_) (fun c42 => ?_)
      · rw [bP_0] at c42
        have e9 : bP (T q = wc b p9 m9) = 0 := bP_f (by rw [a5, ei]; exact fun z => c42 (fun j hj => z.2 j (by omega)))
        have k1 := kont (some (.int (nI k)))
        rw [e9] at k1
        rw [bP_f c42]
        exact k1
      · refine kx_aload_n (pc := 45) (kx_dd d_Mo_wordOf 27 rfl) rfl rfl ?_
        refine kx_getR (pc := 46) (b := 85) fl_Mo_17 (hm.k 0 rfl) rfl (hm.r 0 rfl) (kx_dd d_Mo_wordOf 28 rfl) ?_
        refine kx_bipush (pc := 49) (v := 12) (kx_dd d_Mo_wordOf 29 rfl) rfl ?_
        refine kx_iload_n (pc := 51) (kx_dd d_Mo_wordOf 30 rfl) rfl rfl ?_
        refine kx_imul (pc := 52) (kx_dd d_Mo_wordOf 31 rfl) ?_
        refine kx_iload (pc := 53) (kx_dd d_Mo_wordOf 32 rfl) rfl ?_
        refine kx_iadd (pc := 55) (kx_dd d_Mo_wordOf 33 rfl) ?_
        refine kx_baldn (pc := 56) (12 * q + k) (hm.t 1 rfl) (nI_ix 12 q k) (by omega) (by decide) (kx_dd d_Mo_wordOf 34 rfl) ?_
        refine kx_aload_n (pc := 57) (kx_dd d_Mo_wordOf 35 rfl) rfl rfl ?_
        refine kx_getR (pc := 58) (b := 88) fl_Mo_21 (hm.k 0 rfl) rfl (hm.r 3 rfl) (kx_dd d_Mo_wordOf 36 rfl) ?_
        refine kx_iload_n (pc := 61) (kx_dd d_Mo_wordOf 37 rfl) rfl rfl ?_
        refine kx_iload (pc := 62) (kx_dd d_Mo_wordOf 38 rfl) rfl ?_
        refine kx_iadd (pc := 64) (kx_dd d_Mo_wordOf 39 rfl) ?_
        refine kx_baldn (pc := 65) (p9 + k) (hm.t 4 rfl) (nI_add p9 k) (by omega) (by decide) (kx_dd d_Mo_wordOf 40 rfl) ?_
        refine kx_icmp_ne (pc := 66) (tgt := 73) (kx_dd d_Mo_wordOf 41 rfl) rfl (fun c66 => ?_) (fun c66 => ?_)
        · refine kx_iconst (pc := 73) (v := 0) (kx_dd d_Mo_wordOf 44 rfl) rfl ?_
          refine kx_istore_e (pc := 74) (lv' := [_, _, _, _, _, _]) (kx_dd d_Mo_wordOf 45 rfl) (Nat.le_of_ble_eq_true rfl) rfl ?_
          refine kx_iinc_e (pc := 76) (v := nI (k + 1)) (lv' := [_, _, _, _, _, _]) (kx_dd d_Mo_wordOf 46 rfl) rfl (Nat.le_of_ble_eq_true rfl) (nI_1 k) rfl ?_
          refine kx_goto (pc := 79) (tgt := 32) (kx_dd d_Mo_wordOf 47 rfl) rfl ?_
          rw [bP_0, Classical.not_not] at c42
          rw [ht0.2.2 _ (by omega)] at c66
          have e9 : bP (∀ j, j < k + 1 → h0.1 85 (12 * q + j) = b (p9 + j)) = 0 := bP_f (fun z => c66 (z k (by omega)))
          have ih1 := ih (k + 1) (by omega)
          rw [e9] at ih1
          exact ih1
        · refine kx_iconst (pc := 69) (v := 1) (kx_dd d_Mo_wordOf 42 rfl) rfl ?_
          refine kx_goto (pc := 70) (tgt := 74) (kx_dd d_Mo_wordOf 43 rfl) rfl ?_
          refine kx_istore_e (pc := 74) (lv' := [_, _, _, _, _, _]) (kx_dd d_Mo_wordOf 45 rfl) (Nat.le_of_ble_eq_true rfl) rfl ?_
          refine kx_iinc_e (pc := 76) (v := nI (k + 1)) (lv' := [_, _, _, _, _, _]) (kx_dd d_Mo_wordOf 46 rfl) rfl (Nat.le_of_ble_eq_true rfl) (nI_1 k) rfl ?_
          refine kx_goto (pc := 79) (tgt := 32) (kx_dd d_Mo_wordOf 47 rfl) rfl ?_
          rw [bP_0, Classical.not_not] at c42
          rw [ht0.2.2 _ (by omega)] at c66
          have e9 : bP (∀ j, j < k + 1 → h0.1 85 (12 * q + j) = b (p9 + j)) = 1 := bP_t (fun j hj => by
            by_cases z : j = k
            · rw [z]; exact c66
            · exact c42 j (by omega))
          have ih1 := ih (k + 1) (by omega)
          rw [e9] at ih1
          exact ih1
theorem y_wo_out {l : Launch} {g : kx_G} {d : Nat} {h0 : kx_Mem} (hm0 : SM h0) (b : Nat → Int32) (n : Nat) (ht0 : TapM b n h0) (hby : BY b) (nw : Nat) (T : Nat → Nat) (hwt : WTok nw T) (hwm0 : WTm nw T h0) (hnw : nw < 2000) (p9 m : Nat) (hm1 : 1 ≤ m) (hm12 : m ≤ 12) (hpn : p9 + m ≤ n) (hle : ∀ j, j < m → isLe (b (p9 + j)) = true) : ∀ f q, q + f = nw → ∀ w4 w5, (∀ j, j < q → T j ≠ (wc b p9 m)) → kx_X (l, g, m_Mo_wordOf, d, 0, 0, (fun v h' => ∃ j, v = some (.int (nI j)) ∧ j < (waF nw T (wc b p9 m)).1 ∧ (waF nw T (wc b p9 m)).2 j = (wc b p9 m) ∧ WTm (waF nw T (wc b p9 m)).1 (waF nw T (wc b p9 m)).2 h' ∧ kx_Fc Fw h0 h')) 0 0 2 [some (.ref 84), some (.int (nI p9)), some (.int (nI (p9 + m))), some (.int (nI q)), w4, w5] [] h0 := by
  have hn6 := ht0.2.1
  have hn2 := hwt.1
  have hm := hm0
  intro f
  induction f with
  | zero =>
    intro q hq w4 w5 hno
    have hk0 : q = nw := by omega
    subst hk0
    refine kx_iload_n (pc := 2) (kx_dd d_Mo_wordOf 2 rfl) rfl rfl ?_
    refine kx_aload_n (pc := 3) (kx_dd d_Mo_wordOf 3 rfl) rfl rfl ?_
    refine kx_getI (pc := 4) fl_Mo_9 (hm.k 0 rfl) rfl (kx_dd d_Mo_wordOf 4 rfl) ?_
    refine kx_icmp_ge (pc := 7) (tgt := 95) (kx_dd d_Mo_wordOf 5 rfl) rfl (fun c7 => ?_) (fun c7 => ?_)
    · refine kx_iconst (pc := 95) (v := 0) (kx_dd d_Mo_wordOf 54 rfl) rfl ?_
      refine kx_istore_ne (pc := 96) (lv' := [_, _, _, _, _, _]) (kx_dd d_Mo_wordOf 55 rfl) rfl (Nat.le_of_ble_eq_true rfl) rfl ?_
      exact y_wo_cp hm0 b n ht0 hby q T hwt hwm0 hnw p9 m hm1 hm12 hpn hle hno m 0 (by omega) h0 _ _ kx_Fc.rf (fun j hj => absurd hj (Nat.not_lt_zero j))
    · exact absurd (by rw [hwm0.1]; exact Int32.le_refl _) c7
  | succ f ih =>
    intro q hq w4 w5 hno
    obtain ⟨m9, a1, a2, a3, a4, a5⟩ := hwm0.2 q (by omega)
    have kont : ∀ x5, kx_X (l, g, m_Mo_wordOf, d, 0, 0, (fun v h' => ∃ j, v = some (.int (nI j)) ∧ j < (waF nw T (wc b p9 m)).1 ∧ (waF nw T (wc b p9 m)).2 j = (wc b p9 m) ∧ WTm (waF nw T (wc b p9 m)).1 (waF nw T (wc b p9 m)).2 h' ∧ kx_Fc Fw h0 h')) 0 0 82 [some (.ref 84), some (.int (nI p9)), some (.int (nI (p9 + m))), some (.int (nI q)), some (.int (bP (T q = (wc b p9 m)))), x5] [] h0 := by
      intro x5
      refine kx_iload (pc := 82) (kx_dd d_Mo_wordOf 48 rfl) rfl ?_
      refine kx_if_eq (pc := 84) (tgt := 89) (kx_dd d_Mo_wordOf 49 rfl) rfl (fun c84 => ?_) (fun c84 => ?_)
      · refine kx_iinc_e (pc := 89) (v := nI (q + 1)) (lv' := [_, _, _, _, _, _]) (kx_dd d_Mo_wordOf 52 rfl) rfl (Nat.le_of_ble_eq_true rfl) (nI_1 q) rfl ?_
        refine kx_goto (pc := 92) (tgt := 2) (kx_dd d_Mo_wordOf 53 rfl) rfl ?_
        rw [bP_0] at c84
        exact ih (q + 1) (by omega) _ _ (fun j hj => by
          by_cases z : j = q
          · rw [z]; exact c84
          · exact hno j (by omega))
      · refine kx_iload_n (pc := 87) (kx_dd d_Mo_wordOf 50 rfl) rfl rfl ?_
        refine kx_iret (pc := 88) rfl (kx_dd d_Mo_wordOf 51 rfl) (Nat.le_refl _) (Nat.le_refl _) ?_
        rw [bP_0, Classical.not_not] at c84
        rw [waF_y (show q < nw by omega) c84]
        exact ⟨q, rfl, by show q < nw; omega, c84, hwm0, kx_Fc.rf⟩
    refine kx_iload_n (pc := 2) (kx_dd d_Mo_wordOf 2 rfl) rfl rfl ?_
    refine kx_aload_n (pc := 3) (kx_dd d_Mo_wordOf 3 rfl) rfl rfl ?_
    refine kx_getI (pc := 4) fl_Mo_9 (hm.k 0 rfl) rfl (kx_dd d_Mo_wordOf 4 rfl) ?_
    refine kx_icmp_ge (pc := 7) (tgt := 95) (kx_dd d_Mo_wordOf 5 rfl) rfl (fun c7 => ?_) (fun c7 => ?_)
    · exact absurd c7 (by rw [hwm0.1]; exact nI_ge (by omega) (by omega))
    · refine kx_aload_n (pc := 10) (kx_dd d_Mo_wordOf 6 rfl) rfl rfl ?_
      refine kx_getR (pc := 11) (b := 86) fl_Mo_13 (hm.k 0 rfl) rfl (hm.r 1 rfl) (kx_dd d_Mo_wordOf 7 rfl) ?_
      refine kx_iload_n (pc := 14) (kx_dd d_Mo_wordOf 8 rfl) rfl rfl ?_
      refine kx_ialdn (pc := 15) q (hm.t 2 rfl) rfl (by omega) (by decide) (kx_dd d_Mo_wordOf 9 rfl) ?_
      refine kx_iload_n (pc := 16) (kx_dd d_Mo_wordOf 10 rfl) rfl rfl ?_
      refine kx_iload_n (pc := 17) (kx_dd d_Mo_wordOf 11 rfl) rfl rfl ?_
      refine kx_isub (pc := 18) (kx_dd d_Mo_wordOf 12 rfl) ?_
      refine kx_icmp_ne (pc := 19) (tgt := 26) (kx_dd d_Mo_wordOf 13 rfl) rfl (fun c19 => ?_) (fun c19 => ?_)
      · refine kx_iconst (pc := 26) (v := 0) (kx_dd d_Mo_wordOf 16 rfl) rfl ?_
        refine kx_istore_e (pc := 27) (lv' := [_, _, _, _, _, _]) (kx_dd d_Mo_wordOf 17 rfl) (Nat.le_of_ble_eq_true rfl) rfl ?_
        refine kx_iconst (pc := 29) (v := 0) (kx_dd d_Mo_wordOf 18 rfl) rfl ?_
        refine kx_istore_e (pc := 30) (lv' := [_, _, _, _, _, _]) (kx_dd d_Mo_wordOf 19 rfl) (Nat.le_of_ble_eq_true rfl) rfl ?_
        rw [a1, pk_sub (by omega), nI_eq (by omega) (by omega)] at c19
        have e9 : bP (T q = (wc b p9 m)) = 0 := bP_f (by rw [a5, wc_inj m9 m a4 hle]; exact fun z => c19 (by omega))
        have k1 := kont (some (.int 0))
        rw [e9] at k1
        refine kx_iload (pc := 32) (kx_dd d_Mo_wordOf 20 rfl) rfl ?_
        refine kx_iload_n (pc := 34) (kx_dd d_Mo_wordOf 21 rfl) rfl rfl ?_
        refine kx_iload_n (pc := 35) (kx_dd d_Mo_wordOf 22 rfl) rfl rfl ?_
        refine kx_isub (pc := 36) (kx_dd d_Mo_wordOf 23 rfl) ?_
        refine kx_icmp_ge (pc := 37) (tgt := 82) (kx_dd d_Mo_wordOf 24 rfl) rfl (fun c37 => ?_) (fun c37 => ?_)
        · exact absurd c37 (by rw [pk_sub (by omega)]; exact nI_ge (a := 0) (by omega) (by omega))
        · refine kx_iload (pc := 40) (kx_dd d_Mo_wordOf 25 rfl) rfl ?_
          refine kx_if_eq (pc := 42) (tgt := 82) (kx_dd d_Mo_wordOf 26 rfl) rfl (fun c42 => ?_) (fun c42 => ?_)
          · exact k1
          · exact absurd rfl c42
      · refine kx_iconst (pc := 22) (v := 1) (kx_dd d_Mo_wordOf 14 rfl) rfl ?_
        refine kx_goto (pc := 23) (tgt := 27) (kx_dd d_Mo_wordOf 15 rfl) rfl ?_
        refine kx_istore_e (pc := 27) (lv' := [_, _, _, _, _, _]) (kx_dd d_Mo_wordOf 17 rfl) (Nat.le_of_ble_eq_true rfl) rfl ?_
        refine kx_iconst (pc := 29) (v := 0) (kx_dd d_Mo_wordOf 18 rfl) rfl ?_
        refine kx_istore_e (pc := 30) (lv' := [_, _, _, _, _, _]) (kx_dd d_Mo_wordOf 19 rfl) (Nat.le_of_ble_eq_true rfl) rfl ?_
        rw [a1, pk_sub (by omega), nI_eq (by omega) (by omega)] at c19
        have k1 := y_wo_in (l := l) (g := g) (d := d) hm0 b n ht0 hby nw T hwt hwm0 hnw p9 m hm1 hm12 hpn hle q (by omega) (by rw [a1]; congr 1; omega) kont m 0 (by omega)
        rw [bP_t (fun j hj => absurd hj (Nat.not_lt_zero j))] at k1
        exact k1
theorem y_wordOf {l : Launch} {g : kx_G} {d : Nat} {h : kx_Mem} (hm : SM h) (b : Nat → Int32) (n : Nat) (ht : TapM b n h) (hby : BY b) (nw : Nat) (T : Nat → Nat) (hwt : WTok nw T) (hwm : WTm nw T h) (hnw : nw < 2000) (p9 m : Nat) (hm1 : 1 ≤ m) (hm12 : m ≤ 12) (hpn : p9 + m ≤ n) (hle : ∀ j, j < m → isLe (b (p9 + j)) = true) : kx_Sp l g m_Mo_wordOf [.ref 84, .int (nI p9), .int (nI (p9 + m))] h (d) 0 0 (fun v h' => ∃ j, v = some (.int (nI j)) ∧ j < (waF nw T (wc b p9 m)).1 ∧ (waF nw T (wc b p9 m)).2 j = (wc b p9 m) ∧ WTm (waF nw T (wc b p9 m)).1 (waF nw T (wc b p9 m)).2 h' ∧ kx_Fc Fw h h') := by
  refine kx_enter_e (lv := [_, _, _, _, _, _]) (by decide +kernel) (Nat.le_of_ble_eq_true rfl) rfl ?_
  refine kx_iconst (pc := 0) (v := 0) (kx_dd d_Mo_wordOf 0 rfl) rfl ?_
  refine kx_istore_ne (pc := 1) (lv' := [_, _, _, _, _, _]) (kx_dd d_Mo_wordOf 1 rfl) rfl (Nat.le_of_ble_eq_true rfl) rfl ?_
  exact y_wo_out hm b n ht hby nw T hwt hwm hnw p9 m hm1 hm12 hpn hle nw 0 (by omega) _ _ (fun j hj => absurd hj (Nat.not_lt_zero j))
