/-! the reference: plain, with a new row -/
/-- as kx_Fc, but new objects may have come -/
def kx_Fn (P : Nat → Nat → Prop) (h h' : kx_Mem) : Prop := h.2.2.2.2 ≤ h'.2.2.2.2 ∧ ∀ a, (a < h.2.2.2.2 ∨ 1000000 ≤ a) → (∀ j, ¬ P a j → h'.1 a j = h.1 a j) ∧ (∀ j, h'.2.1 a j = h.2.1 a j) ∧ (∀ j, h'.2.2.1 a j = h.2.2.1 a j) ∧ h'.2.2.2.1 a = h.2.2.2.1 a
theorem kx_Fc.n {P : Nat → Nat → Prop} {h h' : kx_Mem} (a : kx_Fc P h h') : kx_Fn P h h' := ⟨by rw [a.1]; exact Nat.le_refl _, fun b _ => ⟨fun j hj => a.2 b j hj, fun j => by rw [a.1], fun j => by rw [a.1], by rw [a.1]⟩⟩
theorem kx_Fn.tr {P : Nat → Nat → Prop} {h h1 h2 : kx_Mem} (a : kx_Fn P h h1) (b : kx_Fn P h1 h2) : kx_Fn P h h2 := by
  refine ⟨Nat.le_trans a.1 b.1, fun x hx => ?_⟩
  have h3 := a.2 x hx
  have h4 := b.2 x (by have := a.1; omega)
  exact ⟨fun j hj => (h4.1 j hj).trans (h3.1 j hj), fun j => (h4.2.1 j).trans (h3.2.1 j), fun j => (h4.2.2.1 j).trans (h3.2.2.1 j), h4.2.2.2.trans h3.2.2.2⟩
theorem kx_Fn.mono {P P' : Nat → Nat → Prop} {h h1 : kx_Mem} (a : kx_Fn P h h1) (hP : ∀ a j, P a j → P' a j) : kx_Fn P' h h1 := ⟨a.1, fun x hx => ⟨fun j hj => (a.2 x hx).1 j (fun z => hj (hP x j z)), (a.2 x hx).2⟩⟩
theorem kx_Fn.new {P : Nat → Nat → Prop} {h : kx_Mem} {k len : Nat} (hN : h.2.2.2.2 < 1000000) : kx_Fn P h (kx_new h k len) := by
  refine ⟨Nat.le_succ _, fun a ha => ?_⟩
  have e : a ≠ h.2.2.2.2 := by omega
  exact ⟨fun j _ => if_neg e, fun j => if_neg e, fun j => if_neg e, if_neg e⟩
/-- a row that came since -/
theorem kx_Fn.setNew {P : Nat → Nat → Prop} {h h1 : kx_Mem} {N j : Nat} {x : Int32} (a : kx_Fn P h h1) (hN : h.2.2.2.2 ≤ N) (hN2 : N < 1000000) : kx_Fn P h (kx_setI h1 N j x) := by
  refine ⟨a.1, fun b hb => ⟨fun i hi => ?_, (a.2 b hb).2⟩⟩
  rw [setI_ne (Or.inl (by omega))]
  exact (a.2 b hb).1 i hi
theorem kx_Fn.c {P : Nat → Nat → Prop} {h h' : kx_Mem} (a : kx_Fn P h h') (hN : 154 ≤ h.2.2.2.2) : kx_Fc (fun b j => P b j ∨ 154 ≤ b) h (h'.1, h.2) := ⟨rfl, fun b j hb => (a.2 b (by omega)).1 j (fun z => hb (Or.inl z))⟩
theorem rM_lt : ∀ q ∈ rM, q.1 < 154 := by decide
theorem tM_lt : ∀ q ∈ tM, q.1 < 154 := by decide
theorem SM_fn {P : Nat → Nat → Prop} {h h' : kx_Mem} (hs : SM h) (a : kx_Fn P h h') (hN : 154 ≤ h.2.2.2.2) : SM h' := ⟨fun q hq => ((a.2 q.1 (by have := rM_lt q hq; omega)).2.2.1 q.2.1).trans (hs.1 q hq), fun q hq => (a.2 q.1 (by have := tM_lt q hq; omega)).2.2.2.trans (hs.2 q hq)⟩
def FpV (v a j : Nat) : Prop := (a = 89 ∧ 11 * v ≤ j ∧ j < 11 * v + 11) ∨ (a = 90 ∧ 4 * v ≤ j ∧ j < 4 * v + 4) ∨ ((a = 91 ∨ a = 94 ∨ a = 97 ∨ a = 100) ∧ j = v)
theorem y_pl89 {l : Launch} {g : kx_G} {d : Nat} (v : Nat) (hv : v ≤ 4) (N : Nat) (hN : 154 ≤ N ∧ N < 1000000) (h2 : kx_Mem) (hm2 : SM h2) (kN : h2.2.2.2.1 N = (50, 11)) (hval : ∀ j, j < 11 → h2.1 N j = r0S j) (Q9 : Option Value → kx_Mem → Prop) (hQ : ∀ h', kx_Fc (FpV v) h2 h' → (∀ n T, RUm ru0 v n T h') → Q9 none h') : ∀ f k, k + f = 4 → ∀ h, kx_Fc (FpV v) h2 h → (∀ j, j < 11 → h.1 89 (11 * v + j) = r0S j) → (∀ j, j < k → h.1 90 (4 * v + j) = nI j) → kx_X (l, g, m_Mo_plain, d, 1, 11, Q9) 1 11 89 [some (.ref 84), some (.int (nI v)), some (.ref N), some (.int (nI k))] [] h := by
  intro f
  induction f with
  | zero =>
    intro k hk h hf h9 h0
    have hk4 : k = 4 := by omega
    subst hk4
    have hm : SM h := hm2.fc hf
    have kNh : h.2.2.2.1 N = (50, 11) := by rw [hf.1]; exact kN
    refine kx_iload_n (pc := 89) (kx_dd d_Mo_plain 67 rfl) rfl rfl ?_
    refine kx_iconst (pc := 90) (v := 4) (kx_dd d_Mo_plain 68 rfl) rfl ?_
    refine kx_icmp_ge (pc := 91) (tgt := 111) (kx_dd d_Mo_plain 69 rfl) rfl (fun c91 => ?_) (fun c91 => ?_)
    · refine kx_aload_n (pc := 111) (kx_dd d_Mo_plain 81 rfl) rfl rfl ?_
      refine kx_getR (pc := 112) (b := 91) fl_Mo_91 (hm.k 0 rfl) rfl (hm.r 6 rfl) (kx_dd d_Mo_plain 82 rfl) ?_
      refine kx_iload_n (pc := 115) (kx_dd d_Mo_plain 83 rfl) rfl rfl ?_
      refine kx_iconst (pc := 116) (v := 0) (kx_dd d_Mo_plain 84 rfl) rfl ?_
      refine kx_iastn (pc := 117) v (hm.t 7 rfl) (by decide) rfl (by omega) (by decide) (kx_dd d_Mo_plain 85 rfl) ?_
      refine kx_aload_n (pc := 118) (kx_dd d_Mo_plain 86 rfl) rfl rfl ?_
      refine kx_getR (pc := 119) (b := 94) fl_Mo_94 (hm.k 0 rfl) rfl (hm.r 9 rfl) (kx_dd d_Mo_plain 87 rfl) ?_
      refine kx_iload_n (pc := 122) (kx_dd d_Mo_plain 88 rfl) rfl rfl ?_
      refine kx_iconst (pc := 123) (v := 0) (kx_dd d_Mo_plain 89 rfl) rfl ?_
      refine kx_iastn (pc := 124) v (hm.t 10 rfl) (by decide) rfl (by omega) (by decide) (kx_dd d_Mo_plain 90 rfl) ?_
      refine kx_aload_n (pc := 125) (kx_dd d_Mo_plain 91 rfl) rfl rfl ?_
      refine kx_getR (pc := 126) (b := 97) fl_Mo_97 (hm.k 0 rfl) rfl (hm.r 12 rfl) (kx_dd d_Mo_plain 92 rfl) ?_
      refine kx_iload_n (pc := 129) (kx_dd d_Mo_plain 93 rfl) rfl rfl ?_
      refine kx_iconst (pc := 130) (v := 0) (kx_dd d_Mo_plain 94 rfl) rfl ?_
      refine kx_iastn (pc := 131) v (hm.t 13 rfl) (by decide) rfl (by omega) (by decide) (kx_dd d_Mo_plain 95 rfl) ?_
      refine kx_aload_n (pc := 132) (kx_dd d_Mo_plain 96 rfl) rfl rfl ?_
      refine kx_getR (pc := 133) (b := 100) fl_Mo_100 (hm.k 0 rfl) rfl (hm.r 15 rfl) (kx_dd d_Mo_plain 97 rfl) ?_
      refine kx_iload_n (pc := 136) (kx_dd d_Mo_plain 98 rfl) rfl rfl ?_
      refine kx_iconst (pc := 137) (v := 0) (kx_dd d_Mo_plain 99 rfl) rfl ?_
      refine kx_iastn (pc := 138) v (hm.t 16 rfl) (by decide) rfl (by omega) (by decide) (kx_dd d_Mo_plain 100 rfl) ?_
      refine kx_vret (pc := 139) rfl (kx_dd d_Mo_plain 101 rfl) (Nat.le_refl _) (Nat.le_refl _) ?_
      have hf9 : kx_Fc (FpV v) h (kx_setI (kx_setI (kx_setI (kx_setI h 91 v 0) 94 v 0) 97 v 0) 100 v 0) := (((kx_Fc.set (by unfold FpV; omega)).tr (kx_Fc.set (by unfold FpV; omega))).tr (kx_Fc.set (by unfold FpV; omega))).tr (kx_Fc.set (by unfold FpV; omega))
      have e : ∀ a j, a ≠ 91 → a ≠ 94 → a ≠ 97 → a ≠ 100 → (kx_setI (kx_setI (kx_setI (kx_setI h 91 v 0) 94 v 0) 97 v 0) 100 v 0).1 a j = h.1 a j := fun a j q1 q2 q3 q4 => by rw [setI_ne (Or.inl q4), setI_ne (Or.inl q3), setI_ne (Or.inl q2), setI_ne (Or.inl q1)]
      refine hQ _ (hf.tr hf9) (fun n T => ⟨fun k hk => by rw [e _ _ (by decide) (by decide) (by decide) (by decide)]; exact h9 k hk, fun k hk => by rw [e _ _ (by decide) (by decide) (by decide) (by decide)]; exact h0 k hk, ?_, fun k hk => absurd hk (Nat.not_lt_zero k), ?_, fun k hk => absurd hk (Nat.not_lt_zero k), ?_, fun k y hy => absurd hy (by show ¬ ([] : List (Bool × Nat × Nat × Nat))[k]? = some y; simp), ?_, fun k y hy => absurd hy (by show ¬ ([] : List (Bool × Nat × Nat × Nat))[k]? = some y; simp)⟩)
      · rw [setI_ne (Or.inl (by decide)), setI_ne (Or.inl (by decide)), setI_ne (Or.inl (by decide)), setI_at]; rfl
      · rw [setI_ne (Or.inl (by decide)), setI_ne (Or.inl (by decide)), setI_at]; rfl
      · rw [setI_ne (Or.inl (by decide)), setI_at]; rfl
      · exact setI_at
    · exact absurd (by decide) c91
  | succ f ih =>
    intro k hk h hf h9 h0
    have hm : SM h := hm2.fc hf
    have kNh : h.2.2.2.1 N = (50, 11) := by rw [hf.1]; exact kN
    refine kx_iload_n (pc := 89) (kx_dd d_Mo_plain 67 rfl) rfl rfl ?_
    refine kx_iconst (pc := 90) (v := 4) (kx_dd d_Mo_plain 68 rfl) rfl ?_
    refine kx_icmp_ge (pc := 91) (tgt := 111) (kx_dd d_Mo_plain 69 rfl) rfl (fun c91 => ?_) (fun c91 => ?_)
    · exact absurd c91 (nI_ge (b := 4) (by omega) (by decide))
    · refine kx_aload_n (pc := 94) (kx_dd d_Mo_plain 70 rfl) rfl rfl ?_
      refine kx_getR (pc := 95) (b := 90) fl_Mo_88 (hm.k 0 rfl) rfl (hm.r 5 rfl) (kx_dd d_Mo_plain 71 rfl) ?_
      refine kx_iconst (pc := 98) (v := 4) (kx_dd d_Mo_plain 72 rfl) rfl ?_
      refine kx_iload_n (pc := 99) (kx_dd d_Mo_plain 73 rfl) rfl rfl ?_
      refine kx_imul (pc := 100) (kx_dd d_Mo_plain 74 rfl) ?_
      refine kx_iload_n (pc := 101) (kx_dd d_Mo_plain 75 rfl) rfl rfl ?_
      refine kx_iadd (pc := 102) (kx_dd d_Mo_plain 76 rfl) ?_
      refine kx_iload_n (pc := 103) (kx_dd d_Mo_plain 77 rfl) rfl rfl ?_
      refine kx_iastn (pc := 104) (4 * v + k) (hm.t 6 rfl) (by decide) (nI_ix 4 v k) (by omega) (by decide) (kx_dd d_Mo_plain 78 rfl) ?_
      refine kx_iinc_e (pc := 105) (v := nI (k + 1)) (lv' := [_, _, _, _]) (kx_dd d_Mo_plain 79 rfl) rfl (Nat.le_of_ble_eq_true rfl) (nI_1 k) rfl ?_
      refine kx_goto (pc := 108) (tgt := 89) (kx_dd d_Mo_plain 80 rfl) rfl ?_
      refine ih (k + 1) (by omega) _ (hf.tr (kx_Fc.set (by unfold FpV; omega))) (fun j hj => by rw [setI_ne (Or.inl (by decide))]; exact h9 j hj) (fun j hj => ?_)
      by_cases e : j = k
      · rw [e]; exact setI_at
      · rw [setI_ne (Or.inr (by omega))]; exact h0 j (by omega)
theorem y_pl61 {l : Launch} {g : kx_G} {d : Nat} (v : Nat) (hv : v ≤ 4) (N : Nat) (hN : 154 ≤ N ∧ N < 1000000) (h2 : kx_Mem) (hm2 : SM h2) (kN : h2.2.2.2.1 N = (50, 11)) (hval : ∀ j, j < 11 → h2.1 N j = r0S j) (Q9 : Option Value → kx_Mem → Prop) (hQ : ∀ h', kx_Fc (FpV v) h2 h' → (∀ n T, RUm ru0 v n T h') → Q9 none h') : ∀ f k, k + f = 11 → ∀ h, kx_Fc (FpV v) h2 h → (∀ j, j < k → h.1 89 (11 * v + j) = r0S j) → kx_X (l, g, m_Mo_plain, d, 1, 11, Q9) 1 11 61 [some (.ref 84), some (.int (nI v)), some (.ref N), some (.int (nI k))] [] h := by
  intro f
  induction f with
  | zero =>
    intro k hk h hf h9
    have hk4 : k = 11 := by omega
    subst hk4
    have hm : SM h := hm2.fc hf
    have kNh : h.2.2.2.1 N = (50, 11) := by rw [hf.1]; exact kN
    refine kx_iload_n (pc := 61) (kx_dd d_Mo_plain 49 rfl) rfl rfl ?_
    refine kx_bipush (pc := 62) (v := 11) (kx_dd d_Mo_plain 50 rfl) rfl ?_
    refine kx_icmp_ge (pc := 64) (tgt := 87) (kx_dd d_Mo_plain 51 rfl) rfl (fun c64 => ?_) (fun c64 => ?_)
    · refine kx_iconst (pc := 87) (v := 0) (kx_dd d_Mo_plain 65 rfl) rfl ?_
      refine kx_istore_ne (pc := 88) (lv' := [_, _, _, _]) (kx_dd d_Mo_plain 66 rfl) rfl (Nat.le_of_ble_eq_true rfl) rfl ?_
      exact y_pl89 v hv N hN h2 hm2 kN hval Q9 hQ 4 0 (by omega) h hf h9 (fun j hj => absurd hj (Nat.not_lt_zero j))
    · exact absurd (by decide) c64
  | succ f ih =>
    intro k hk h hf h9
    have hm : SM h := hm2.fc hf
    have kNh : h.2.2.2.1 N = (50, 11) := by rw [hf.1]; exact kN
    have eN : h.1 N k = r0S k := by rw [hf.2 N k (by unfold FpV; omega)]; exact hval k (by omega)
    refine kx_iload_n (pc := 61) (kx_dd d_Mo_plain 49 rfl) rfl rfl ?_
    refine kx_bipush (pc := 62) (v := 11) (kx_dd d_Mo_plain 50 rfl) rfl ?_
    refine kx_icmp_ge (pc := 64) (tgt := 87) (kx_dd d_Mo_plain 51 rfl) rfl (fun c64 => ?_) (fun c64 => ?_)
    · exact absurd c64 (nI_ge (b := 11) (by omega) (by decide))
    · refine kx_aload_n (pc := 67) (kx_dd d_Mo_plain 52 rfl) rfl rfl ?_
      refine kx_getR (pc := 68) (b := 89) fl_Mo_85 (hm.k 0 rfl) rfl (hm.r 4 rfl) (kx_dd d_Mo_plain 53 rfl) ?_
      refine kx_bipush (pc := 71) (v := 11) (kx_dd d_Mo_plain 54 rfl) rfl ?_
      refine kx_iload_n (pc := 73) (kx_dd d_Mo_plain 55 rfl) rfl rfl ?_
      refine kx_imul (pc := 74) (kx_dd d_Mo_plain 56 rfl) ?_
      refine kx_iload_n (pc := 75) (kx_dd d_Mo_plain 57 rfl) rfl rfl ?_
      refine kx_iadd (pc := 76) (kx_dd d_Mo_plain 58 rfl) ?_
      refine kx_aload_n (pc := 77) (kx_dd d_Mo_plain 59 rfl) rfl rfl ?_
      refine kx_iload_n (pc := 78) (kx_dd d_Mo_plain 60 rfl) rfl rfl ?_
      refine kx_ialdn (pc := 79) k kNh rfl (by omega) (by decide) (kx_dd d_Mo_plain 61 rfl) ?_
      rw [eN]
      refine kx_iastn (pc := 80) (11 * v + k) (hm.t 5 rfl) (by decide) (nI_ix 11 v k) (by omega) (by decide) (kx_dd d_Mo_plain 62 rfl) ?_
      refine kx_iinc_e (pc := 81) (v := nI (k + 1)) (lv' := [_, _, _, _]) (kx_dd d_Mo_plain 63 rfl) rfl (Nat.le_of_ble_eq_true rfl) (nI_1 k) rfl ?_
      refine kx_goto (pc := 84) (tgt := 61) (kx_dd d_Mo_plain 64 rfl) rfl ?_
      refine ih (k + 1) (by omega) _ (hf.tr (kx_Fc.set (by unfold FpV; omega))) (fun j hj => ?_)
      by_cases e : j = k
      · rw [e]; exact setI_at
      · rw [setI_ne (Or.inr (by omega))]; exact h9 j (by omega)
theorem y_plain {l : Launch} {g : kx_G} {d : Nat} {h : kx_Mem} (hm : SM h) (hN2 : 154 ≤ h.2.2.2.2 ∧ h.2.2.2.2 < 1000000) (v : Nat) (hv : v ≤ 4) : kx_Sp l g m_Mo_plain [.ref 84, .int (nI v)] h d 1 11 (fun z h' => z = none ∧ kx_Fn (FpV v) h h' ∧ h'.2.2.2.2 = h.2.2.2.2 + 1 ∧ ∀ n T, RUm ru0 v n T h') := by
  refine kx_enter_e (lv := [_, _, _, _]) (by decide +kernel) (Nat.le_of_ble_eq_true rfl) rfl ?_
  refine kx_bipush (pc := 0) (v := 11) (kx_dd d_Mo_plain 0 rfl) rfl ?_
  refine kx_newa (pc := 2) (kd := 50) (N' := 11) ⟨by decide, by decide⟩ rfl (kx_in 133 rfl rfl) (by decide) (by decide) (by decide) hN2.2 (Nat.le_refl _) (Nat.le_refl _) (kx_dd d_Mo_plain 1 rfl) ?_
  have kN : (kx_new h 50 11).2.2.2.1 h.2.2.2.2 = (50, 11) := if_pos rfl
  have hF1 : kx_Fn (fun _ _ => False) h (kx_new h 50 11) := kx_Fn.new hN2.2
  have hm : SM (kx_new h 50 11) := SM_fn hm hF1 hN2.1
  have hc1 : (kx_new h 50 11).2.2.2.2 = h.2.2.2.2 + 1 := rfl
  generalize kx_new h 50 11 = h1 at kN hF1 hm hc1 ⊢
  obtain ⟨N, eN⟩ : ∃ N, h.2.2.2.2 = N := ⟨_, rfl⟩
  rw [eN]
  rw [eN] at kN hN2 hc1
  refine kx_dup (pc := 4) (kx_dd d_Mo_plain 2 rfl) rfl ?_
  refine kx_iconst (pc := 5) (v := 0) (kx_dd d_Mo_plain 3 rfl) rfl ?_
  refine kx_sipush (pc := 6) (v := 1999) (kx_dd d_Mo_plain 4 rfl) rfl ?_
  refine kx_iastn (pc := 9) 0 kN hN2.2 rfl (by decide) (by decide) (kx_dd d_Mo_plain 5 rfl) ?_
  refine kx_dup (pc := 10) (kx_dd d_Mo_plain 6 rfl) rfl ?_
  refine kx_iconst (pc := 11) (v := 1) (kx_dd d_Mo_plain 7 rfl) rfl ?_
  refine kx_iconst (pc := 12) (v := 0) (kx_dd d_Mo_plain 8 rfl) rfl ?_
  refine kx_iastn (pc := 13) 1 kN hN2.2 rfl (by decide) (by decide) (kx_dd d_Mo_plain 9 rfl) ?_
  refine kx_dup (pc := 14) (kx_dd d_Mo_plain 10 rfl) rfl ?_
  refine kx_iconst (pc := 15) (v := 2) (kx_dd d_Mo_plain 11 rfl) rfl ?_
  refine kx_sipush (pc := 16) (v := 1999) (kx_dd d_Mo_plain 12 rfl) rfl ?_
  refine kx_iastn (pc := 19) 2 kN hN2.2 rfl (by decide) (by decide) (kx_dd d_Mo_plain 13 rfl) ?_
  refine kx_dup (pc := 20) (kx_dd d_Mo_plain 14 rfl) rfl ?_
  refine kx_iconst (pc := 21) (v := 3) (kx_dd d_Mo_plain 15 rfl) rfl ?_
  refine kx_iconst (pc := 22) (v := 2) (kx_dd d_Mo_plain 16 rfl) rfl ?_
  refine kx_iastn (pc := 23) 3 kN hN2.2 rfl (by decide) (by decide) (kx_dd d_Mo_plain 17 rfl) ?_
  refine kx_dup (pc := 24) (kx_dd d_Mo_plain 18 rfl) rfl ?_
  refine kx_iconst (pc := 25) (v := 4) (kx_dd d_Mo_plain 19 rfl) rfl ?_
  refine kx_iconst (pc := 26) (v := 0) (kx_dd d_Mo_plain 20 rfl) rfl ?_
  refine kx_iastn (pc := 27) 4 kN hN2.2 rfl (by decide) (by decide) (kx_dd d_Mo_plain 21 rfl) ?_
  refine kx_dup (pc := 28) (kx_dd d_Mo_plain 22 rfl) rfl ?_
  refine kx_iconst (pc := 29) (v := 5) (kx_dd d_Mo_plain 23 rfl) rfl ?_
  refine kx_iconst (pc := 30) (v := 0) (kx_dd d_Mo_plain 24 rfl) rfl ?_
  refine kx_iastn (pc := 31) 5 kN hN2.2 rfl (by decide) (by decide) (kx_dd d_Mo_plain 25 rfl) ?_
  refine kx_dup (pc := 32) (kx_dd d_Mo_plain 26 rfl) rfl ?_
  refine kx_bipush (pc := 33) (v := 6) (kx_dd d_Mo_plain 27 rfl) rfl ?_
  refine kx_iconst (pc := 35) (v := 1) (kx_dd d_Mo_plain 28 rfl) rfl ?_
  refine kx_iastn (pc := 36) 6 kN hN2.2 rfl (by decide) (by decide) (kx_dd d_Mo_plain 29 rfl) ?_
  refine kx_dup (pc := 37) (kx_dd d_Mo_plain 30 rfl) rfl ?_
  refine kx_bipush (pc := 38) (v := 7) (kx_dd d_Mo_plain 31 rfl) rfl ?_
  refine kx_iconst (pc := 40) (v := -1) (kx_dd d_Mo_plain 32 rfl) rfl ?_
  refine kx_iastn (pc := 41) 7 kN hN2.2 rfl (by decide) (by decide) (kx_dd d_Mo_plain 33 rfl) ?_
  refine kx_dup (pc := 42) (kx_dd d_Mo_plain 34 rfl) rfl ?_
  refine kx_bipush (pc := 43) (v := 8) (kx_dd d_Mo_plain 35 rfl) rfl ?_
  refine kx_iconst (pc := 45) (v := 0) (kx_dd d_Mo_plain 36 rfl) rfl ?_
  refine kx_iastn (pc := 46) 8 kN hN2.2 rfl (by decide) (by decide) (kx_dd d_Mo_plain 37 rfl) ?_
  refine kx_dup (pc := 47) (kx_dd d_Mo_plain 38 rfl) rfl ?_
  refine kx_bipush (pc := 48) (v := 9) (kx_dd d_Mo_plain 39 rfl) rfl ?_
  refine kx_iconst (pc := 50) (v := 0) (kx_dd d_Mo_plain 40 rfl) rfl ?_
  refine kx_iastn (pc := 51) 9 kN hN2.2 rfl (by decide) (by decide) (kx_dd d_Mo_plain 41 rfl) ?_
  refine kx_dup (pc := 52) (kx_dd d_Mo_plain 42 rfl) rfl ?_
  refine kx_bipush (pc := 53) (v := 10) (kx_dd d_Mo_plain 43 rfl) rfl ?_
  refine kx_bipush (pc := 55) (v := 100) (kx_dd d_Mo_plain 44 rfl) rfl ?_
  refine kx_iastn (pc := 57) 10 kN hN2.2 rfl (by decide) (by decide) (kx_dd d_Mo_plain 45 rfl) ?_
  refine kx_astore_ne (pc := 58) (lv' := [_, _, _, _]) (kx_dd d_Mo_plain 46 rfl) rfl (Nat.le_of_ble_eq_true rfl) rfl ?_
  refine kx_iconst (pc := 59) (v := 0) (kx_dd d_Mo_plain 47 rfl) rfl ?_
  refine kx_istore_ne (pc := 60) (lv' := [_, _, _, _]) (kx_dd d_Mo_plain 48 rfl) rfl (Nat.le_of_ble_eq_true rfl) rfl ?_
  have hval : ∀ j, j < 11 → (kx_setI (kx_setI (kx_setI (kx_setI (kx_setI (kx_setI (kx_setI (kx_setI (kx_setI (kx_setI (kx_setI h1 N 0 1999) N 1 0) N 2 1999) N 3 2) N 4 0) N 5 0) N 6 1) N 7 (-1)) N 8 0) N 9 0) N 10 100).1 N j = r0S j := fun j hj => by
    match j, hj with
    | 0, _ => rw [setI_ne (Or.inr (by decide)), setI_ne (Or.inr (by decide)), setI_ne (Or.inr (by decide)), setI_ne (Or.inr (by decide)), setI_ne (Or.inr (by decide)), setI_ne (Or.inr (by decide)), setI_ne (Or.inr (by decide)), setI_ne (Or.inr (by decide)), setI_ne (Or.inr (by decide)), setI_ne (Or.inr (by decide)), setI_at]; rfl
    | 1, _ => rw [setI_ne (Or.inr (by decide)), setI_ne (Or.inr (by decide)), setI_ne (Or.inr (by decide)), setI_ne (Or.inr (by decide)), setI_ne (Or.inr (by decide)), setI_ne (Or.inr (by decide)), setI_ne (Or.inr (by decide)), setI_ne (Or.inr (by decide)), setI_ne (Or.inr (by decide)), setI_at]; rfl
    | 2, _ => rw [setI_ne (Or.inr (by decide)), setI_ne (Or.inr (by decide)), setI_ne (Or.inr (by decide)), setI_ne (Or.inr (by decide)), setI_ne (Or.inr (by decide)), setI_ne (Or.inr (by decide)), setI_ne (Or.inr (by decide)), setI_ne (Or.inr (by decide)), setI_at]; rfl
    | 3, _ => rw [setI_ne (Or.inr (by decide)), setI_ne (Or.inr (by decide)), setI_ne (Or.inr (by decide)), setI_ne (Or.inr (by decide)), setI_ne (Or.inr (by decide)), setI_ne (Or.inr (by decide)), setI_ne (Or.inr (by decide)), setI_at]; rfl
    | 4, _ => rw [setI_ne (Or.inr (by decide)), setI_ne (Or.inr (by decide)), setI_ne (Or.inr (by decide)), setI_ne (Or.inr (by decide)), setI_ne (Or.inr (by decide)), setI_ne (Or.inr (by decide)), setI_at]; rfl
    | 5, _ => rw [setI_ne (Or.inr (by decide)), setI_ne (Or.inr (by decide)), setI_ne (Or.inr (by decide)), setI_ne (Or.inr (by decide)), setI_ne (Or.inr (by decide)), setI_at]; rfl
    | 6, _ => rw [setI_ne (Or.inr (by decide)), setI_ne (Or.inr (by decide)), setI_ne (Or.inr (by decide)), setI_ne (Or.inr (by decide)), setI_at]; rfl
    | 7, _ => rw [setI_ne (Or.inr (by decide)), setI_ne (Or.inr (by decide)), setI_ne (Or.inr (by decide)), setI_at]; rfl
    | 8, _ => rw [setI_ne (Or.inr (by decide)), setI_ne (Or.inr (by decide)), setI_at]; rfl
    | 9, _ => rw [setI_ne (Or.inr (by decide)), setI_at]; rfl
    | 10, _ => rw [setI_at]; rfl
    | m + 11, hj => exact absurd hj (by omega)
  have hF2 : kx_Fn (fun _ _ => False) h (kx_setI (kx_setI (kx_setI (kx_setI (kx_setI (kx_setI (kx_setI (kx_setI (kx_setI (kx_setI (kx_setI h1 N 0 1999) N 1 0) N 2 1999) N 3 2) N 4 0) N 5 0) N 6 1) N 7 (-1)) N 8 0) N 9 0) N 10 100) := (kx_Fn.setNew (kx_Fn.setNew (kx_Fn.setNew (kx_Fn.setNew (kx_Fn.setNew (kx_Fn.setNew (kx_Fn.setNew (kx_Fn.setNew (kx_Fn.setNew (kx_Fn.setNew (kx_Fn.setNew hF1 (Nat.le_of_eq eN) hN2.2) (Nat.le_of_eq eN) hN2.2) (Nat.le_of_eq eN) hN2.2) (Nat.le_of_eq eN) hN2.2) (Nat.le_of_eq eN) hN2.2) (Nat.le_of_eq eN) hN2.2) (Nat.le_of_eq eN) hN2.2) (Nat.le_of_eq eN) hN2.2) (Nat.le_of_eq eN) hN2.2) (Nat.le_of_eq eN) hN2.2) (Nat.le_of_eq eN) hN2.2)
  have hm2 : SM (kx_setI (kx_setI (kx_setI (kx_setI (kx_setI (kx_setI (kx_setI (kx_setI (kx_setI (kx_setI (kx_setI h1 N 0 1999) N 1 0) N 2 1999) N 3 2) N 4 0) N 5 0) N 6 1) N 7 (-1)) N 8 0) N 9 0) N 10 100) := hm
  have kN2 : (kx_setI (kx_setI (kx_setI (kx_setI (kx_setI (kx_setI (kx_setI (kx_setI (kx_setI (kx_setI (kx_setI h1 N 0 1999) N 1 0) N 2 1999) N 3 2) N 4 0) N 5 0) N 6 1) N 7 (-1)) N 8 0) N 9 0) N 10 100).2.2.2.1 N = (50, 11) := kN
  have hc2 : (kx_setI (kx_setI (kx_setI (kx_setI (kx_setI (kx_setI (kx_setI (kx_setI (kx_setI (kx_setI (kx_setI h1 N 0 1999) N 1 0) N 2 1999) N 3 2) N 4 0) N 5 0) N 6 1) N 7 (-1)) N 8 0) N 9 0) N 10 100).2.2.2.2 = N + 1 := hc1
  generalize (kx_setI (kx_setI (kx_setI (kx_setI (kx_setI (kx_setI (kx_setI (kx_setI (kx_setI (kx_setI (kx_setI h1 N 0 1999) N 1 0) N 2 1999) N 3 2) N 4 0) N 5 0) N 6 1) N 7 (-1)) N 8 0) N 9 0) N 10 100) = h2 at hval hF2 hm2 kN2 hc2 ⊢
  exact y_pl61 v hv N hN2 h2 hm2 kN2 hval _ (fun h' a1 a2 => ⟨rfl, (hF2.mono (fun _ _ z => z.elim)).tr a1.n, by rw [a1.1, hc2], a2⟩) 11 0 (by omega) h2 kx_Fc.rf (fun j hj => absurd hj (Nat.not_lt_zero j))
