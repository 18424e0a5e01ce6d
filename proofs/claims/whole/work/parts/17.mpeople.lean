/-! the reference: people (object 84) -/
theorem lg_lt (x y : Int64) : lg_cmp x y < 0 ↔ x < y := by rw [← Int32.not_le, lg_cmp_ge, Int64.not_le]
theorem lg_gt (x y : Int64) : 0 < lg_cmp x y ↔ y < x := by rw [← Int32.not_le, lg_cmp_le, Int64.not_le]
theorem w_le (a b : Int32) : a.toInt64 ≤ b.toInt64 ↔ a ≤ b := by
  rw [Int64.le_iff_toInt_le, Int32.toInt_toInt64, Int32.toInt_toInt64, Int32.le_iff_toInt_le]
theorem w_le0 (a : Int32) : (0 : Int64) ≤ a.toInt64 ↔ 0 ≤ a := by
  rw [show (0 : Int64) = (0 : Int32).toInt64 from rfl, w_le]
theorem w_pred {n : Nat} (hn : n < 2 ^ 30) (a : Int32) : a.toInt64 ≤ (nI n).toInt64 - 1 ↔ a < nI n := by
  have e1 : ((nI n).toInt64 - 1).toInt = (n : Int) - 1 := by
    rw [nI_l (by omega), show (1 : Int64) = lN 1 from rfl]
    cases n with
    | zero => rfl
    | succ n => rw [lN_sub (by omega), lN_toInt (by omega)]; omega
  rw [Int64.le_iff_toInt_le, e1, Int32.toInt_toInt64, Int32.lt_iff_toInt_lt, nI_toInt (by omega)]
  omega
theorem y_in {l : Launch} {g : kx_G} {d : Nat} {h : kx_Mem} (x lo hi : Int64) : kx_Sp l g m_Mo_in [.long x, .long lo, .long hi] h (d) 0 0 (fun v h' => v = some (.int (bP (lo ≤ x ∧ x ≤ hi))) ∧ h' = h) := by
  refine kx_enter_e (lv := [_, _, _, _, _, _]) (by decide +kernel) (Nat.le_of_ble_eq_true rfl) rfl ?_
  refine kx_lload_n (pc := 0) (kx_dd d_Mo_in 0 rfl) rfl rfl ?_
  refine kx_lload_n (pc := 1) (kx_dd d_Mo_in 1 rfl) rfl rfl ?_
  refine kx_lcmp (pc := 2) (kx_dd d_Mo_in 2 rfl) ?_
  refine kx_if_lt (pc := 3) (tgt := 17) (kx_dd d_Mo_in 3 rfl) rfl (fun c3 => ?_) (fun c3 => ?_)
  · refine kx_iconst (pc := 17) (v := 0) (kx_dd d_Mo_in 10 rfl) rfl ?_
    refine kx_zret (pc := 18) rfl rfl (kx_dd d_Mo_in 11 rfl) (Nat.le_refl _) (Nat.le_refl _) ?_
    rw [lg_lt] at c3
    exact ⟨by rw [bP_f (fun z => absurd z.1 (Int64.not_le.mpr c3))], rfl⟩
  · refine kx_lload_n (pc := 6) (kx_dd d_Mo_in 4 rfl) rfl rfl ?_
    refine kx_lload (pc := 7) (kx_dd d_Mo_in 5 rfl) rfl ?_
    refine kx_lcmp (pc := 9) (kx_dd d_Mo_in 6 rfl) ?_
    refine kx_if_gt (pc := 10) (tgt := 17) (kx_dd d_Mo_in 7 rfl) rfl (fun c10 => ?_) (fun c10 => ?_)
    · refine kx_iconst (pc := 17) (v := 0) (kx_dd d_Mo_in 10 rfl) rfl ?_
      refine kx_zret (pc := 18) rfl rfl (kx_dd d_Mo_in 11 rfl) (Nat.le_refl _) (Nat.le_refl _) ?_
      rw [lg_gt] at c10
      exact ⟨by rw [bP_f (fun z => absurd z.2 (Int64.not_le.mpr c10))], rfl⟩
    · refine kx_iconst (pc := 13) (v := 1) (kx_dd d_Mo_in 8 rfl) rfl ?_
      refine kx_goto (pc := 14) (tgt := 18) (kx_dd d_Mo_in 9 rfl) rfl ?_
      refine kx_zret (pc := 18) rfl rfl (kx_dd d_Mo_in 11 rfl) (Nat.le_refl _) (Nat.le_refl _) ?_
      rw [lg_lt] at c3
      rw [lg_gt] at c10
      exact ⟨by rw [bP_t ⟨Int64.not_lt.mp c3, Int64.not_lt.mp c10⟩], rfl⟩
theorem nar_bP (c : Prop) : narrow .boolean (.int (bP c)) = .int (bP c) := by
  rcases Classical.em c with z | z
  · rw [bP_t z]; rfl
  · rw [bP_f z]; rfl
theorem y_isDay {l : Launch} {g : kx_G} {d : Nat} {h : kx_Mem} (a : Int32) : kx_Sp l g m_Mo_isDay [.int a] h (d + 1) 0 0 (fun v h' => v = some (.int (bP (0 ≤ a ∧ a ≤ 1999))) ∧ h' = h) := by
  refine kx_enter_e (lv := [_]) (by decide +kernel) (Nat.le_of_ble_eq_true rfl) rfl ?_
  refine kx_iload_n (pc := 0) (kx_dd d_Mo_isDay 0 rfl) rfl rfl ?_
  refine kx_i2l (pc := 1) (kx_dd d_Mo_isDay 1 rfl) ?_
  refine kx_lconst (pc := 2) (v := 0) (kx_dd d_Mo_isDay 2 rfl) rfl ?_
  refine kx_ldc2 (pc := 3) kl_Mo_3 (kx_dd d_Mo_isDay 3 rfl) ?_
  refine kx_invS (pc := 6) (as := [_, _, _]) (kx_dd d_Mo_isDay 4 rfl) ⟨lk_Mo_5, wt_Mo_in⟩ w_Mo_in rfl rfl (by decide) (y_in (d := d) _ _ _) (Nat.le_refl _) ⟨Nat.le_refl _, Nat.le_refl _⟩ (fun v h' hq => ?_)
  obtain ⟨rfl, he⟩ := hq
  rw [he]
  clear he
  refine kx_zret (pc := 9) rfl (nar_bP _) (kx_dd d_Mo_isDay 5 rfl) (Nat.le_refl _) (Nat.le_refl _) ?_
  exact ⟨by rw [bP_c (show _ ↔ (0 ≤ a ∧ a ≤ 1999) by rw [w_le0, show (1999 : Int64) = (1999 : Int32).toInt64 from rfl, w_le])], rfl⟩
theorem y_isNation {l : Launch} {g : kx_G} {d : Nat} {h : kx_Mem} (a : Int32) : kx_Sp l g m_Mo_isNation [.int a] h (d + 1) 0 0 (fun v h' => v = some (.int (bP (0 ≤ a ∧ a ≤ 3))) ∧ h' = h) := by
  refine kx_enter_e (lv := [_]) (by decide +kernel) (Nat.le_of_ble_eq_true rfl) rfl ?_
  refine kx_iload_n (pc := 0) (kx_dd d_Mo_isNation 0 rfl) rfl rfl ?_
  refine kx_i2l (pc := 1) (kx_dd d_Mo_isNation 1 rfl) ?_
  refine kx_lconst (pc := 2) (v := 0) (kx_dd d_Mo_isNation 2 rfl) rfl ?_
  refine kx_ldc2 (pc := 3) kl_Mo_234 (kx_dd d_Mo_isNation 3 rfl) ?_
  refine kx_invS (pc := 6) (as := [_, _, _]) (kx_dd d_Mo_isNation 4 rfl) ⟨lk_Mo_5, wt_Mo_in⟩ w_Mo_in rfl rfl (by decide) (y_in (d := d) _ _ _) (Nat.le_refl _) ⟨Nat.le_refl _, Nat.le_refl _⟩ (fun v h' hq => ?_)
  obtain ⟨rfl, he⟩ := hq
  rw [he]
  clear he
  refine kx_zret (pc := 9) rfl (nar_bP _) (kx_dd d_Mo_isNation 5 rfl) (Nat.le_refl _) (Nat.le_refl _) ?_
  exact ⟨by rw [bP_c (show _ ↔ (0 ≤ a ∧ a ≤ 3) by rw [w_le0, show (3 : Int64) = (3 : Int32).toInt64 from rfl, w_le])], rfl⟩
/-- people as the reference holds them -/
def PSm (s : PS) (h : kx_Mem) : Prop := h.1 84 33 = nI s.1 ∧ h.1 84 34 = nI s.2.1 ∧ ∀ k, k < s.2.1 → h.1 107 k = nI (s.2.2.1 k) ∧ h.1 108 k = nI (s.2.2.2.1 k) ∧ h.1 112 k = nI (s.2.2.2.2.1 k) ∧ (s.2.2.1 k = 2 → h.1 109 k = nI (s.2.2.2.2.2.2 k) ∧ h.1 110 k = nI (s.2.2.2.2.2.1 k)) ∧ (s.2.2.1 k ≠ 2 → h.1 111 k = nI (s.2.2.2.2.2.1 k)) ∧ (s.2.2.1 k = 0 → h.1 109 k = nI (s.2.2.2.2.2.2 k))
theorem PSm.fp {s : PS} {P : Nat → Prop} {h h' : kx_Mem} (hp : PSm s h) (hf : kx_Fp P h h') (hX : ∀ a ∈ [84, 107, 108, 109, 110, 111, 112], ¬ P a) : PSm s h' := by
  unfold PSm
  rw [hf.2 84 (hX 84 (by decide)), hf.2 107 (hX 107 (by decide)), hf.2 108 (hX 108 (by decide)), hf.2 109 (hX 109 (by decide)), hf.2 110 (hX 110 (by decide)), hf.2 111 (hX 111 (by decide)), hf.2 112 (hX 112 (by decide))]
  exact hp
theorem y_isPerson {l : Launch} {g : kx_G} {d : Nat} {h : kx_Mem} (hm : SM h) (s : PS) (ho : PSok s) (hp : PSm s h) (a : Int32) : kx_Sp l g m_Mo_isPerson [.ref 84, .int a] h (d + 1) 0 0 (fun v h' => v = some (.int (bP (0 ≤ a ∧ a < nI s.1))) ∧ h' = h) := by
  have o2 := ho.1
  refine kx_enter_e (lv := [_, _]) (by decide +kernel) (Nat.le_of_ble_eq_true rfl) rfl ?_
  refine kx_iload_n (pc := 0) (kx_dd d_Mo_isPerson 0 rfl) rfl rfl ?_
  refine kx_i2l (pc := 1) (kx_dd d_Mo_isPerson 1 rfl) ?_
  refine kx_lconst (pc := 2) (v := 0) (kx_dd d_Mo_isPerson 2 rfl) rfl ?_
  refine kx_aload_n (pc := 3) (kx_dd d_Mo_isPerson 3 rfl) rfl rfl ?_
  refine kx_getI (pc := 4) fl_Mo_429 (hm.k 0 rfl) rfl (kx_dd d_Mo_isPerson 4 rfl) ?_
  refine kx_i2l (pc := 7) (kx_dd d_Mo_isPerson 5 rfl) ?_
  refine kx_lconst (pc := 8) (v := 1) (kx_dd d_Mo_isPerson 6 rfl) rfl ?_
  refine kx_lsub (pc := 9) (kx_dd d_Mo_isPerson 7 rfl) ?_
  rw [hp.1]
  refine kx_invS (pc := 10) (as := [_, _, _]) (kx_dd d_Mo_isPerson 8 rfl) ⟨lk_Mo_5, wt_Mo_in⟩ w_Mo_in rfl rfl (by decide) (y_in (d := d) _ _ _) (Nat.le_refl _) ⟨Nat.le_refl _, Nat.le_refl _⟩ (fun v h' hq => ?_)
  obtain ⟨rfl, he⟩ := hq
  rw [he]
  clear he
  refine kx_zret (pc := 13) rfl (nar_bP _) (kx_dd d_Mo_isPerson 9 rfl) (Nat.le_refl _) (Nat.le_refl _) ?_
  exact ⟨by rw [bP_c (show _ ↔ (0 ≤ a ∧ a < nI s.1) by rw [w_le0, w_pred (by omega)])], rfl⟩
theorem y_isTelling {l : Launch} {g : kx_G} {d : Nat} {h : kx_Mem} (hm : SM h) (s : PS) (ho : PSok s) (hp : PSm s h) (k c p kn : Nat) (hk : k < s.2.1) (hc : c ≤ 2) (hpp : p < 2 ^ 31) (hkn : kn < 2 ^ 31) : kx_Sp l g m_Mo_isTelling [.ref 84, .int (nI k), .int (nI c), .int (nI p), .int (nI kn)] h (d) 0 0 (fun v h' => v = some (.int (bP (toldP s k c p kn))) ∧ h' = h) := by
  obtain ⟨q1, q2, q3, q4, q5, q6⟩ := hp.2.2 k (by omega)
  have o1 := ho.2.2 k (by omega)
  have o2 := ho.1
  have o3 := ho.2.1
  refine kx_enter_e (lv := [_, _, _, _, _]) (by decide +kernel) (Nat.le_of_ble_eq_true rfl) rfl ?_
  refine kx_aload_n (pc := 0) (kx_dd d_Mo_isTelling 0 rfl) rfl rfl ?_
  refine kx_getR (pc := 1) (b := 107) fl_Mo_279 (hm.k 0 rfl) rfl (hm.r 22 rfl) (kx_dd d_Mo_isTelling 1 rfl) ?_
  refine kx_iload_n (pc := 4) (kx_dd d_Mo_isTelling 2 rfl) rfl rfl ?_
  refine kx_ialdn (pc := 5) k (hm.t 23 rfl) rfl (by omega) (by decide) (kx_dd d_Mo_isTelling 3 rfl) ?_
  refine kx_iload_n (pc := 6) (kx_dd d_Mo_isTelling 4 rfl) rfl rfl ?_
  refine kx_icmp_ne (pc := 7) (tgt := 35) (kx_dd d_Mo_isTelling 5 rfl) rfl (fun c7 => ?_) (fun c7 => ?_)
  · refine kx_iconst (pc := 35) (v := 0) (kx_dd d_Mo_isTelling 20 rfl) rfl ?_
    refine kx_zret (pc := 36) rfl rfl (kx_dd d_Mo_isTelling 21 rfl) (Nat.le_refl _) (Nat.le_refl _) ?_
    refine ⟨?_, rfl⟩
    simp (disch := omega) only [q1, q2, q3, bP_0, bP_1, nI_eq, nI_ltI, nI_leI, nI_lt_p] at c7
    first | (rw [bP_t (show toldP s k c p kn from ⟨by omega, by omega, by omega⟩)]) | (rw [bP_f (show ¬ toldP s k c p kn from fun z => by unfold toldP at z; omega)])
  · refine kx_aload_n (pc := 10) (kx_dd d_Mo_isTelling 6 rfl) rfl rfl ?_
    refine kx_getR (pc := 11) (b := 108) fl_Mo_282 (hm.k 0 rfl) rfl (hm.r 23 rfl) (kx_dd d_Mo_isTelling 7 rfl) ?_
    refine kx_iload_n (pc := 14) (kx_dd d_Mo_isTelling 8 rfl) rfl rfl ?_
    refine kx_ialdn (pc := 15) k (hm.t 24 rfl) rfl (by omega) (by decide) (kx_dd d_Mo_isTelling 9 rfl) ?_
    refine kx_iload_n (pc := 16) (kx_dd d_Mo_isTelling 10 rfl) rfl rfl ?_
    refine kx_icmp_ne (pc := 17) (tgt := 35) (kx_dd d_Mo_isTelling 11 rfl) rfl (fun c17 => ?_) (fun c17 => ?_)
    · refine kx_iconst (pc := 35) (v := 0) (kx_dd d_Mo_isTelling 20 rfl) rfl ?_
      refine kx_zret (pc := 36) rfl rfl (kx_dd d_Mo_isTelling 21 rfl) (Nat.le_refl _) (Nat.le_refl _) ?_
      refine ⟨?_, rfl⟩
      simp (disch := omega) only [q1, q2, q3, bP_0, bP_1, nI_eq, nI_ltI, nI_leI, nI_lt_p] at c7 c17
      first | (rw [bP_t (show toldP s k c p kn from ⟨by omega, by omega, by omega⟩)]) | (rw [bP_f (show ¬ toldP s k c p kn from fun z => by unfold toldP at z; omega)])
    · refine kx_aload_n (pc := 20) (kx_dd d_Mo_isTelling 12 rfl) rfl rfl ?_
      refine kx_getR (pc := 21) (b := 112) fl_Mo_294 (hm.k 0 rfl) rfl (hm.r 27 rfl) (kx_dd d_Mo_isTelling 13 rfl) ?_
      refine kx_iload_n (pc := 24) (kx_dd d_Mo_isTelling 14 rfl) rfl rfl ?_
      refine kx_ialdn (pc := 25) k (hm.t 28 rfl) rfl (by omega) (by decide) (kx_dd d_Mo_isTelling 15 rfl) ?_
      refine kx_iload (pc := 26) (kx_dd d_Mo_isTelling 16 rfl) rfl ?_
      refine kx_icmp_gt (pc := 28) (tgt := 35) (kx_dd d_Mo_isTelling 17 rfl) rfl (fun c28 => ?_) (fun c28 => ?_)
      · refine kx_iconst (pc := 35) (v := 0) (kx_dd d_Mo_isTelling 20 rfl) rfl ?_
        refine kx_zret (pc := 36) rfl rfl (kx_dd d_Mo_isTelling 21 rfl) (Nat.le_refl _) (Nat.le_refl _) ?_
        refine ⟨?_, rfl⟩
        simp (disch := omega) only [q1, q2, q3, bP_0, bP_1, nI_eq, nI_ltI, nI_leI, nI_lt_p] at c7 c17 c28
        first | (rw [bP_t (show toldP s k c p kn from ⟨by omega, by omega, by omega⟩)]) | (rw [bP_f (show ¬ toldP s k c p kn from fun z => by unfold toldP at z; omega)])
      · refine kx_iconst (pc := 31) (v := 1) (kx_dd d_Mo_isTelling 18 rfl) rfl ?_
        refine kx_goto (pc := 32) (tgt := 36) (kx_dd d_Mo_isTelling 19 rfl) rfl ?_
        refine kx_zret (pc := 36) rfl rfl (kx_dd d_Mo_isTelling 21 rfl) (Nat.le_refl _) (Nat.le_refl _) ?_
        refine ⟨?_, rfl⟩
        simp (disch := omega) only [q1, q2, q3, bP_0, bP_1, nI_eq, nI_ltI, nI_leI, nI_lt_p] at c7 c17 c28
        first | (rw [bP_t (show toldP s k c p kn from ⟨by omega, by omega, by omega⟩)]) | (rw [bP_f (show ¬ toldP s k c p kn from fun z => by unfold toldP at z; omega)])
/-- the place of the telling that gives the nation, one more (0: none) -/
noncomputable def besK (s : PS) (p day kn : Nat) : Nat → Nat
  | 0 => 0
  | k + 1 => @ite _ (toldP s k 0 p kn ∧ s.2.2.2.2.2.1 k ≤ day ∧ (besK s p day kn k = 0 ∨ s.2.2.2.2.2.1 (besK s p day kn k - 1) ≤ s.2.2.2.2.2.1 k)) (Classical.propDecidable _) (k + 1) (besK s p day kn k)
theorem besK_nat {s : PS} {p day kn : Nat} : ∀ k, besK s p day kn k ≤ k ∧ (besK s p day kn k ≠ 0 → toldP s (besK s p day kn k - 1) 0 p kn) ∧ natK s p day kn k = (if besK s p day kn k = 0 then (0, 0) else (s.2.2.2.2.2.2 (besK s p day kn k - 1), s.2.2.2.2.2.1 (besK s p day kn k - 1) + 1))
  | 0 => by simp [besK, natK]
  | k + 1 => by
    obtain ⟨h1, h2, h3⟩ := besK_nat (s := s) (p := p) (day := day) (kn := kn) k
    unfold besK natK
    rw [h3]
    by_cases c : toldP s k 0 p kn ∧ s.2.2.2.2.2.1 k ≤ day ∧ (besK s p day kn k = 0 ∨ s.2.2.2.2.2.1 (besK s p day kn k - 1) ≤ s.2.2.2.2.2.1 k)
    · rw [if_pos c]
      have c2 : toldP s k 0 p kn ∧ s.2.2.2.2.2.1 k ≤ day ∧ ((if besK s p day kn k = 0 then ((0, 0) : Nat × Nat) else (s.2.2.2.2.2.2 (besK s p day kn k - 1), s.2.2.2.2.2.1 (besK s p day kn k - 1) + 1))).2 ≤ s.2.2.2.2.2.1 k + 1 := by
        refine ⟨c.1, c.2.1, ?_⟩
        split
        · simp
        · simp only
          rcases c.2.2 with z | z <;> omega
      rw [if_pos c2]
      exact ⟨Nat.le_refl _, fun _ => c.1, by simp⟩
    · rw [if_neg c]
      have c2 : ¬ (toldP s k 0 p kn ∧ s.2.2.2.2.2.1 k ≤ day ∧ ((if besK s p day kn k = 0 then ((0, 0) : Nat × Nat) else (s.2.2.2.2.2.2 (besK s p day kn k - 1), s.2.2.2.2.2.1 (besK s p day kn k - 1) + 1))).2 ≤ s.2.2.2.2.2.1 k + 1) := by
        rintro ⟨z1, z2, z3⟩
        apply c
        refine ⟨z1, z2, ?_⟩
        split at z3
        next z => exact Or.inl z
        next z => simp only at z3; exact Or.inr (by omega)
      rw [if_neg c2]
      exact ⟨by omega, h2, rfl⟩
theorem nI_m1 {b : Nat} (hb : b < 2 ^ 30) : nI b - 1 = -1 ↔ b = 0 := by
  have e1 : (nI b - 1).toInt = (b : Int) - 1 := pk_sub_toInt (b := 1) hb (by omega)
  rw [← Int32.toInt_inj, e1, show (-1 : Int32).toInt = -1 from rfl]
  omega
theorem nI_m1' {b : Nat} (hb : 0 < b) : nI b - 1 = nI (b - 1) := by
  obtain ⟨c, rfl⟩ : ∃ c, b = c + 1 := ⟨b - 1, by omega⟩
  rw [nI_pred]
  rfl
theorem y_nationFor_loop {l : Launch} {g : kx_G} {d : Nat} {h : kx_Mem} (hm : SM h) (s : PS) (ho : PSok s) (hp : PSm s h) (p day kn : Nat) (hpp : p < 2 ^ 31) (hday : day < 2 ^ 31) (hkn : kn < 2 ^ 31) : ∀ n k, k + n = s.2.1 →  kx_X (l, g, m_Mo_nationFor, d + 1, 0, 0, (fun v h' => v = some (.int (nI (natF s p day kn))) ∧ h' = h)) 0 0 6 [some (.ref 84), some (.int (nI p)), some (.int (nI day)), some (.int (nI kn)), some (.int (nI (besK s p day kn k) - 1)), some (.int (nI k))] [] (h) := by
  intro n
  induction n with
  | zero =>
    intro k hk 
    have hk0 : k = s.2.1 := by omega
    subst hk0
    have ob := besK_nat (s := s) (p := p) (day := day) (kn := kn) s.2.1
    have o3 := ho.2.1
    refine kx_iload (pc := 6) (kx_dd d_Mo_nationFor 4 rfl) rfl ?_
    refine kx_aload_n (pc := 8) (kx_dd d_Mo_nationFor 5 rfl) rfl rfl ?_
    refine kx_getI (pc := 9) fl_Mo_432 (hm.k 0 rfl) rfl (kx_dd d_Mo_nationFor 6 rfl) ?_
    refine kx_icmp_ge (pc := 12) (tgt := 71) (kx_dd d_Mo_nationFor 7 rfl) rfl (fun c12 => ?_) (fun c12 => ?_)
    · refine kx_iload (pc := 71) (kx_dd d_Mo_nationFor 37 rfl) rfl ?_
      refine kx_iconst (pc := 73) (v := -1) (kx_dd d_Mo_nationFor 38 rfl) rfl ?_
      refine kx_icmp_ne (pc := 74) (tgt := 81) (kx_dd d_Mo_nationFor 39 rfl) rfl (fun c74 => ?_) (fun c74 => ?_)
      · have hb0 : besK s p day kn s.2.1 ≠ 0 := fun z => c74 ((nI_m1 (by omega)).mpr z)
        have hbt := ob.2.1 hb0
        have hb6 := (hp.2.2 (besK s p day kn s.2.1 - 1) (by omega)).2.2.2.2.2 hbt.1
        refine kx_aload_n (pc := 81) (kx_dd d_Mo_nationFor 42 rfl) rfl rfl ?_
        refine kx_getR (pc := 82) (b := 109) fl_Mo_285 (hm.k 0 rfl) rfl (hm.r 24 rfl) (kx_dd d_Mo_nationFor 43 rfl) ?_
        refine kx_iload (pc := 85) (kx_dd d_Mo_nationFor 44 rfl) rfl ?_
        refine kx_ialdn (pc := 87) (besK s p day kn s.2.1 - 1) (hm.t 25 rfl) (nI_m1' (by omega)) (by omega) (by decide) (kx_dd d_Mo_nationFor 45 rfl) ?_
        refine kx_iret (pc := 88) rfl (kx_dd d_Mo_nationFor 46 rfl) (Nat.le_refl _) (Nat.le_refl _) ?_
        refine ⟨?_, rfl⟩
        unfold natF
        rw [ob.2.2, if_neg hb0, hb6]
      · refine kx_iconst (pc := 77) (v := 0) (kx_dd d_Mo_nationFor 40 rfl) rfl ?_
        refine kx_goto (pc := 78) (tgt := 88) (kx_dd d_Mo_nationFor 41 rfl) rfl ?_
        refine kx_iret (pc := 88) rfl (kx_dd d_Mo_nationFor 46 rfl) (Nat.le_refl _) (Nat.le_refl _) ?_
        rw [nI_m1 (by omega)] at c74
        refine ⟨?_, rfl⟩
        unfold natF
        rw [ob.2.2, if_pos c74]
        rfl
    · exact absurd (by rw [hp.2.1]; exact Int32.le_refl _) c12
  | succ n ih =>
    intro k hk 
    obtain ⟨q1, q2, q3, q4, q5, q6⟩ := hp.2.2 k (by omega)
    have o1 := ho.2.2 k (by omega)
    have o2 := ho.1
    have o3 := ho.2.1
    have ob := besK_nat (s := s) (p := p) (day := day) (kn := kn) k
    refine kx_iload (pc := 6) (kx_dd d_Mo_nationFor 4 rfl) rfl ?_
    refine kx_aload_n (pc := 8) (kx_dd d_Mo_nationFor 5 rfl) rfl rfl ?_
    refine kx_getI (pc := 9) fl_Mo_432 (hm.k 0 rfl) rfl (kx_dd d_Mo_nationFor 6 rfl) ?_
    refine kx_icmp_ge (pc := 12) (tgt := 71) (kx_dd d_Mo_nationFor 7 rfl) rfl (fun c12 => ?_) (fun c12 => ?_)
    · exact absurd c12 (by rw [hp.2.1]; exact nI_ge (by omega) (by omega))
    · refine kx_aload_n (pc := 15) (kx_dd d_Mo_nationFor 8 rfl) rfl rfl ?_
      refine kx_iload (pc := 16) (kx_dd d_Mo_nationFor 9 rfl) rfl ?_
      refine kx_iconst (pc := 18) (v := 0) (kx_dd d_Mo_nationFor 10 rfl) rfl ?_
      refine kx_iload_n (pc := 19) (kx_dd d_Mo_nationFor 11 rfl) rfl rfl ?_
      refine kx_iload_n (pc := 20) (kx_dd d_Mo_nationFor 12 rfl) rfl rfl ?_
      refine kx_invV (pc := 21) (a := 84) (as := [_, _, _, _]) (kx_dd d_Mo_nationFor 13 rfl) ⟨lk_Mo_450, wi_Mo_isTelling, we_Mo_isTelling⟩ w_Mo_isTelling (hm.k 0 rfl) rfl rfl rfl rfl (by decide) (y_isTelling (d := d) hm s ho hp k 0 p kn (by omega) (by decide) hpp hkn) (Nat.le_refl _) ⟨Nat.le_refl _, Nat.le_refl _⟩ (fun v h' hq => ?_)
      obtain ⟨rfl, he⟩ := hq
      rw [he]
      clear he
      refine kx_if_eq (pc := 24) (tgt := 65) (kx_dd d_Mo_nationFor 14 rfl) rfl (fun c24 => ?_) (fun c24 => ?_)
      · refine kx_iinc_e (pc := 65) (v := nI (k + 1)) (lv' := [_, _, _, _, _, _]) (kx_dd d_Mo_nationFor 35 rfl) rfl (Nat.le_of_ble_eq_true rfl) (nI_1 k) rfl ?_
        refine kx_goto (pc := 68) (tgt := 6) (kx_dd d_Mo_nationFor 36 rfl) rfl ?_
        rw [bP_0] at c24
        have e1 : besK s p day kn (k + 1) = besK s p day kn k := if_neg (fun z => c24 z.1)
        have ih1 := ih (k + 1) (by omega)
        rw [e1] at ih1
        exact ih1
      · refine kx_aload_n (pc := 27) (kx_dd d_Mo_nationFor 15 rfl) rfl rfl ?_
        refine kx_getR (pc := 28) (b := 111) fl_Mo_291 (hm.k 0 rfl) rfl (hm.r 26 rfl) (kx_dd d_Mo_nationFor 16 rfl) ?_
        refine kx_iload (pc := 31) (kx_dd d_Mo_nationFor 17 rfl) rfl ?_
        refine kx_ialdn (pc := 33) k (hm.t 27 rfl) rfl (by omega) (by decide) (kx_dd d_Mo_nationFor 18 rfl) ?_
        refine kx_iload_n (pc := 34) (kx_dd d_Mo_nationFor 19 rfl) rfl rfl ?_
        refine kx_icmp_gt (pc := 35) (tgt := 65) (kx_dd d_Mo_nationFor 20 rfl) rfl (fun c35 => ?_) (fun c35 => ?_)
        · refine kx_iinc_e (pc := 65) (v := nI (k + 1)) (lv' := [_, _, _, _, _, _]) (kx_dd d_Mo_nationFor 35 rfl) rfl (Nat.le_of_ble_eq_true rfl) (nI_1 k) rfl ?_
          refine kx_goto (pc := 68) (tgt := 6) (kx_dd d_Mo_nationFor 36 rfl) rfl ?_
          rw [bP_0, Classical.not_not] at c24
          rw [q5 (by rw [c24.1]; decide), nI_ltI (by omega) (by omega)] at c35
          have e1 : besK s p day kn (k + 1) = besK s p day kn k := if_neg (fun z => by have := z.2.1; omega)
          have ih1 := ih (k + 1) (by omega)
          rw [e1] at ih1
          exact ih1
        · refine kx_iload (pc := 38) (kx_dd d_Mo_nationFor 21 rfl) rfl ?_
          refine kx_iconst (pc := 40) (v := -1) (kx_dd d_Mo_nationFor 22 rfl) rfl ?_
          refine kx_icmp_eq (pc := 41) (tgt := 61) (kx_dd d_Mo_nationFor 23 rfl) rfl (fun c41 => ?_) (fun c41 => ?_)
          · refine kx_iload (pc := 61) (kx_dd d_Mo_nationFor 33 rfl) rfl ?_
            refine kx_istore_e (pc := 63) (lv' := [_, _, _, _, _, _]) (kx_dd d_Mo_nationFor 34 rfl) (Nat.le_of_ble_eq_true rfl) rfl ?_
            refine kx_iinc_e (pc := 65) (v := nI (k + 1)) (lv' := [_, _, _, _, _, _]) (kx_dd d_Mo_nationFor 35 rfl) rfl (Nat.le_of_ble_eq_true rfl) (nI_1 k) rfl ?_
            refine kx_goto (pc := 68) (tgt := 6) (kx_dd d_Mo_nationFor 36 rfl) rfl ?_
            rw [bP_0, Classical.not_not] at c24
            rw [q5 (by rw [c24.1]; decide), nI_ltI (by omega) (by omega)] at c35
            rw [nI_m1 (by omega)] at c41
            have e1 : besK s p day kn (k + 1) = k + 1 := if_pos ⟨c24, by omega, Or.inl c41⟩
            have ih1 := ih (k + 1) (by omega)
            rw [e1, nI_pred] at ih1
            exact ih1
          · have hb0 : besK s p day kn k ≠ 0 := fun z => c41 ((nI_m1 (by omega)).mpr z)
            have hbt := ob.2.1 hb0
            have hb5 := (hp.2.2 (besK s p day kn k - 1) (by omega)).2.2.2.2.1 (by rw [hbt.1]; decide)
            have ho5 := (ho.2.2 (besK s p day kn k - 1) (by omega)).2.2.2.1
            refine kx_aload_n (pc := 44) (kx_dd d_Mo_nationFor 24 rfl) rfl rfl ?_
            refine kx_getR (pc := 45) (b := 111) fl_Mo_291 (hm.k 0 rfl) rfl (hm.r 26 rfl) (kx_dd d_Mo_nationFor 25 rfl) ?_
            refine kx_iload (pc := 48) (kx_dd d_Mo_nationFor 26 rfl) rfl ?_
            refine kx_ialdn (pc := 50) k (hm.t 27 rfl) rfl (by omega) (by decide) (kx_dd d_Mo_nationFor 27 rfl) ?_
            refine kx_aload_n (pc := 51) (kx_dd d_Mo_nationFor 28 rfl) rfl rfl ?_
            refine kx_getR (pc := 52) (b := 111) fl_Mo_291 (hm.k 0 rfl) rfl (hm.r 26 rfl) (kx_dd d_Mo_nationFor 29 rfl) ?_
            refine kx_iload (pc := 55) (kx_dd d_Mo_nationFor 30 rfl) rfl ?_
            refine kx_ialdn (pc := 57) (besK s p day kn k - 1) (hm.t 27 rfl) (nI_m1' (by omega)) (by omega) (by decide) (kx_dd d_Mo_nationFor 31 rfl) ?_
            refine kx_icmp_lt (pc := 58) (tgt := 65) (kx_dd d_Mo_nationFor 32 rfl) rfl (fun c58 => ?_) (fun c58 => ?_)
            · refine kx_iinc_e (pc := 65) (v := nI (k + 1)) (lv' := [_, _, _, _, _, _]) (kx_dd d_Mo_nationFor 35 rfl) rfl (Nat.le_of_ble_eq_true rfl) (nI_1 k) rfl ?_
              refine kx_goto (pc := 68) (tgt := 6) (kx_dd d_Mo_nationFor 36 rfl) rfl ?_
              rw [bP_0, Classical.not_not] at c24
              rw [q5 (by rw [c24.1]; decide), nI_ltI (by omega) (by omega)] at c35
              rw [q5 (by rw [c24.1]; decide), hb5, nI_ltI (by omega) (by omega)] at c58
              have e1 : besK s p day kn (k + 1) = besK s p day kn k := if_neg (fun z => by have := z.2.2; omega)
              have ih1 := ih (k + 1) (by omega)
              rw [e1] at ih1
              exact ih1
            · refine kx_iload (pc := 61) (kx_dd d_Mo_nationFor 33 rfl) rfl ?_
              refine kx_istore_e (pc := 63) (lv' := [_, _, _, _, _, _]) (kx_dd d_Mo_nationFor 34 rfl) (Nat.le_of_ble_eq_true rfl) rfl ?_
              refine kx_iinc_e (pc := 65) (v := nI (k + 1)) (lv' := [_, _, _, _, _, _]) (kx_dd d_Mo_nationFor 35 rfl) rfl (Nat.le_of_ble_eq_true rfl) (nI_1 k) rfl ?_
              refine kx_goto (pc := 68) (tgt := 6) (kx_dd d_Mo_nationFor 36 rfl) rfl ?_
              rw [bP_0, Classical.not_not] at c24
              rw [q5 (by rw [c24.1]; decide), nI_ltI (by omega) (by omega)] at c35
              rw [q5 (by rw [c24.1]; decide), hb5, nI_ltI (by omega) (by omega)] at c58
              have e1 : besK s p day kn (k + 1) = k + 1 := if_pos ⟨c24, by omega, Or.inr (by omega)⟩
              have ih1 := ih (k + 1) (by omega)
              rw [e1, nI_pred] at ih1
              exact ih1
theorem y_nationFor {l : Launch} {g : kx_G} {d : Nat} {h : kx_Mem} (hm : SM h) (s : PS) (ho : PSok s) (hp : PSm s h) (p day kn : Nat) (hpp : p < 2 ^ 31) (hday : day < 2 ^ 31) (hkn : kn < 2 ^ 31) : kx_Sp l g m_Mo_nationFor [.ref 84, .int (nI p), .int (nI day), .int (nI kn)] h (d + 1) 0 0 (fun v h' => v = some (.int (nI (natF s p day kn))) ∧ h' = h) := by
  refine kx_enter_e (lv := [_, _, _, _, _, _]) (by decide +kernel) (Nat.le_of_ble_eq_true rfl) rfl ?_
  refine kx_iconst (pc := 0) (v := -1) (kx_dd d_Mo_nationFor 0 rfl) rfl ?_
  refine kx_istore_e (pc := 1) (lv' := [_, _, _, _, _, _]) (kx_dd d_Mo_nationFor 1 rfl) (Nat.le_of_ble_eq_true rfl) rfl ?_
  refine kx_iconst (pc := 3) (v := 0) (kx_dd d_Mo_nationFor 2 rfl) rfl ?_
  refine kx_istore_e (pc := 4) (lv' := [_, _, _, _, _, _]) (kx_dd d_Mo_nationFor 3 rfl) (Nat.le_of_ble_eq_true rfl) rfl ?_
  exact y_nationFor_loop hm s ho hp p day kn hpp hday hkn s.2.1 0 (by omega)
theorem y_isDead_loop {l : Launch} {g : kx_G} {d : Nat} {h : kx_Mem} (hm : SM h) (s : PS) (ho : PSok s) (hp : PSm s h) (p day kn : Nat) (hpp : p < 2 ^ 31) (hday : day < 2 ^ 31) (hkn : kn < 2 ^ 31) : ∀ n k, k + n = s.2.1 → (∀ j, j < k → ¬ (toldP s j 1 p kn ∧ s.2.2.2.2.2.1 j ≤ day)) → kx_X (l, g, m_Mo_isDead, d + 1, 0, 0, (fun v h' => v = some (.int (bP (deadP s p day kn))) ∧ h' = h)) 0 0 3 [some (.ref 84), some (.int (nI p)), some (.int (nI day)), some (.int (nI kn)), some (.int (nI k))] [] (h) := by
  intro n
  induction n with
  | zero =>
    intro k hk hj0
    have hk0 : k = s.2.1 := by omega
    subst hk0
    refine kx_iload (pc := 3) (kx_dd d_Mo_isDead 2 rfl) rfl ?_
    refine kx_aload_n (pc := 5) (kx_dd d_Mo_isDead 3 rfl) rfl rfl ?_
    refine kx_getI (pc := 6) fl_Mo_432 (hm.k 0 rfl) rfl (kx_dd d_Mo_isDead 4 rfl) ?_
    refine kx_icmp_ge (pc := 9) (tgt := 43) (kx_dd d_Mo_isDead 5 rfl) rfl (fun c9 => ?_) (fun c9 => ?_)
    · refine kx_iconst (pc := 43) (v := 0) (kx_dd d_Mo_isDead 23 rfl) rfl ?_
      refine kx_zret (pc := 44) rfl rfl (kx_dd d_Mo_isDead 24 rfl) (Nat.le_refl _) (Nat.le_refl _) ?_
      exact ⟨by rw [bP_f (fun ⟨j, z1, z2⟩ => hj0 j z1 z2)], rfl⟩
    · exact absurd (by rw [hp.2.1]; exact Int32.le_refl _) c9
  | succ n ih =>
    intro k hk hj0
    obtain ⟨q1, q2, q3, q4, q5, q6⟩ := hp.2.2 k (by omega)
    have o1 := ho.2.2 k (by omega)
    have o2 := ho.1
    have o3 := ho.2.1
    refine kx_iload (pc := 3) (kx_dd d_Mo_isDead 2 rfl) rfl ?_
    refine kx_aload_n (pc := 5) (kx_dd d_Mo_isDead 3 rfl) rfl rfl ?_
    refine kx_getI (pc := 6) fl_Mo_432 (hm.k 0 rfl) rfl (kx_dd d_Mo_isDead 4 rfl) ?_
    refine kx_icmp_ge (pc := 9) (tgt := 43) (kx_dd d_Mo_isDead 5 rfl) rfl (fun c9 => ?_) (fun c9 => ?_)
    · exact absurd c9 (by rw [hp.2.1]; exact nI_ge (by omega) (by omega))
    · refine kx_aload_n (pc := 12) (kx_dd d_Mo_isDead 6 rfl) rfl rfl ?_
      refine kx_iload (pc := 13) (kx_dd d_Mo_isDead 7 rfl) rfl ?_
      refine kx_iconst (pc := 15) (v := 1) (kx_dd d_Mo_isDead 8 rfl) rfl ?_
      refine kx_iload_n (pc := 16) (kx_dd d_Mo_isDead 9 rfl) rfl rfl ?_
      refine kx_iload_n (pc := 17) (kx_dd d_Mo_isDead 10 rfl) rfl rfl ?_
      refine kx_invV (pc := 18) (a := 84) (as := [_, _, _, _]) (kx_dd d_Mo_isDead 11 rfl) ⟨lk_Mo_450, wi_Mo_isTelling, we_Mo_isTelling⟩ w_Mo_isTelling (hm.k 0 rfl) rfl rfl rfl rfl (by decide) (y_isTelling (d := d) hm s ho hp k 1 p kn (by omega) (by decide) hpp hkn) (Nat.le_refl _) ⟨Nat.le_refl _, Nat.le_refl _⟩ (fun v h' hq => ?_)
      obtain ⟨rfl, he⟩ := hq
      rw [he]
      clear he
      refine kx_if_eq (pc := 21) (tgt := 37) (kx_dd d_Mo_isDead 12 rfl) rfl (fun c21 => ?_) (fun c21 => ?_)
      · refine kx_iinc_e (pc := 37) (v := nI (k + 1)) (lv' := [_, _, _, _, _]) (kx_dd d_Mo_isDead 21 rfl) rfl (Nat.le_of_ble_eq_true rfl) (nI_1 k) rfl ?_
        refine kx_goto (pc := 40) (tgt := 3) (kx_dd d_Mo_isDead 22 rfl) rfl ?_
        rw [bP_0] at c21
        exact ih (k + 1) (by omega) (fun j hj z => by
          rcases Nat.lt_succ_iff_lt_or_eq.mp hj with h1 | rfl
          · exact hj0 j h1 z
          · exact c21 z.1)
      · refine kx_aload_n (pc := 24) (kx_dd d_Mo_isDead 13 rfl) rfl rfl ?_
        refine kx_getR (pc := 25) (b := 111) fl_Mo_291 (hm.k 0 rfl) rfl (hm.r 26 rfl) (kx_dd d_Mo_isDead 14 rfl) ?_
        refine kx_iload (pc := 28) (kx_dd d_Mo_isDead 15 rfl) rfl ?_
        refine kx_ialdn (pc := 30) k (hm.t 27 rfl) rfl (by omega) (by decide) (kx_dd d_Mo_isDead 16 rfl) ?_
        refine kx_iload_n (pc := 31) (kx_dd d_Mo_isDead 17 rfl) rfl rfl ?_
        refine kx_icmp_gt (pc := 32) (tgt := 37) (kx_dd d_Mo_isDead 18 rfl) rfl (fun c32 => ?_) (fun c32 => ?_)
        · refine kx_iinc_e (pc := 37) (v := nI (k + 1)) (lv' := [_, _, _, _, _]) (kx_dd d_Mo_isDead 21 rfl) rfl (Nat.le_of_ble_eq_true rfl) (nI_1 k) rfl ?_
          refine kx_goto (pc := 40) (tgt := 3) (kx_dd d_Mo_isDead 22 rfl) rfl ?_
          rw [bP_0, Classical.not_not] at c21
          rw [q5 (by rw [c21.1]; decide), nI_ltI (by omega) (by omega)] at c32
          exact ih (k + 1) (by omega) (fun j hj z => by
            rcases Nat.lt_succ_iff_lt_or_eq.mp hj with h1 | rfl
            · exact hj0 j h1 z
            · have := z.2; omega)
        · refine kx_iconst (pc := 35) (v := 1) (kx_dd d_Mo_isDead 19 rfl) rfl ?_
          refine kx_zret (pc := 36) rfl rfl (kx_dd d_Mo_isDead 20 rfl) (Nat.le_refl _) (Nat.le_refl _) ?_
          rw [bP_0, Classical.not_not] at c21
          rw [q5 (by rw [c21.1]; decide), nI_ltI (by omega) (by omega)] at c32
          exact ⟨by rw [bP_t ⟨k, by omega, c21, by omega⟩], rfl⟩
theorem y_isDead {l : Launch} {g : kx_G} {d : Nat} {h : kx_Mem} (hm : SM h) (s : PS) (ho : PSok s) (hp : PSm s h) (p day kn : Nat) (hpp : p < 2 ^ 31) (hday : day < 2 ^ 31) (hkn : kn < 2 ^ 31) : kx_Sp l g m_Mo_isDead [.ref 84, .int (nI p), .int (nI day), .int (nI kn)] h (d + 1) 0 0 (fun v h' => v = some (.int (bP (deadP s p day kn))) ∧ h' = h) := by
  refine kx_enter_e (lv := [_, _, _, _, _]) (by decide +kernel) (Nat.le_of_ble_eq_true rfl) rfl ?_
  refine kx_iconst (pc := 0) (v := 0) (kx_dd d_Mo_isDead 0 rfl) rfl ?_
  refine kx_istore_e (pc := 1) (lv' := [_, _, _, _, _]) (kx_dd d_Mo_isDead 1 rfl) (Nat.le_of_ble_eq_true rfl) rfl ?_
  exact y_isDead_loop hm s ho hp p day kn hpp hday hkn s.2.1 0 (by omega) (fun j hj => absurd hj (Nat.not_lt_zero j))
theorem y_tell {l : Launch} {g : kx_G} {d : Nat} {h : kx_Mem} (hm : SM h) (n : Nat) (hn : h.1 84 34 = nI n) (hn2 : n ≤ 200) (c p nu ot fr : Int32) : kx_Sp l g m_Mo_tell [.ref 84, .int c, .int p, .int nu, .int ot, .int fr] h (d) 0 0 (fun v h' => v = some (.int (if n = 200 then -3 else nI (n + 1))) ∧ h' = (if n = 200 then h else kx_setI (kx_setI (kx_setI (kx_setI (kx_setI (kx_setI (kx_setI h 107 n c) 108 n p) 109 n nu) 110 n ot) 111 n fr) 112 n (h.1 84 36)) 84 34 (nI (n + 1)))) := by
  refine kx_enter_e (lv := [_, _, _, _, _, _]) (by decide +kernel) (Nat.le_of_ble_eq_true rfl) rfl ?_
  refine kx_aload_n (pc := 0) (kx_dd d_Mo_tell 0 rfl) rfl rfl ?_
  refine kx_getI (pc := 1) fl_Mo_432 (hm.k 0 rfl) rfl (kx_dd d_Mo_tell 1 rfl) ?_
  refine kx_sipush (pc := 4) (v := 200) (kx_dd d_Mo_tell 2 rfl) rfl ?_
  refine kx_icmp_ne (pc := 7) (tgt := 13) (kx_dd d_Mo_tell 3 rfl) rfl (fun c7 => ?_) (fun c7 => ?_)
  · have hnn : n < 200 := by
      rw [hn, show (200 : Int32) = nI 200 from rfl, nI_eq (by omega) (by decide)] at c7
      omega
    refine kx_aload_n (pc := 13) (kx_dd d_Mo_tell 6 rfl) rfl rfl ?_
    refine kx_getR (pc := 14) (b := 107) fl_Mo_279 (hm.k 0 rfl) rfl (hm.r 22 rfl) (kx_dd d_Mo_tell 7 rfl) ?_
    refine kx_aload_n (pc := 17) (kx_dd d_Mo_tell 8 rfl) rfl rfl ?_
    refine kx_getI (pc := 18) fl_Mo_432 (hm.k 0 rfl) rfl (kx_dd d_Mo_tell 9 rfl) ?_
    refine kx_iload_n (pc := 21) (kx_dd d_Mo_tell 10 rfl) rfl rfl ?_
    refine kx_iastn (pc := 22) n (hm.t 23 rfl) (by decide) hn (by omega) (by decide) (kx_dd d_Mo_tell 11 rfl) ?_
    refine kx_aload_n (pc := 23) (kx_dd d_Mo_tell 12 rfl) rfl rfl ?_
    refine kx_getR (pc := 24) (b := 108) fl_Mo_282 (hm.k 0 rfl) rfl (hm.r 23 rfl) (kx_dd d_Mo_tell 13 rfl) ?_
    refine kx_aload_n (pc := 27) (kx_dd d_Mo_tell 14 rfl) rfl rfl ?_
    refine kx_getI (pc := 28) fl_Mo_432 (hm.k 0 rfl) rfl (kx_dd d_Mo_tell 15 rfl) ?_
    refine kx_iload_n (pc := 31) (kx_dd d_Mo_tell 16 rfl) rfl rfl ?_
    refine kx_iastn (pc := 32) n (hm.t 24 rfl) (by decide) hn (by omega) (by decide) (kx_dd d_Mo_tell 17 rfl) ?_
    refine kx_aload_n (pc := 33) (kx_dd d_Mo_tell 18 rfl) rfl rfl ?_
    refine kx_getR (pc := 34) (b := 109) fl_Mo_285 (hm.k 0 rfl) rfl (hm.r 24 rfl) (kx_dd d_Mo_tell 19 rfl) ?_
    refine kx_aload_n (pc := 37) (kx_dd d_Mo_tell 20 rfl) rfl rfl ?_
    refine kx_getI (pc := 38) fl_Mo_432 (hm.k 0 rfl) rfl (kx_dd d_Mo_tell 21 rfl) ?_
    refine kx_iload_n (pc := 41) (kx_dd d_Mo_tell 22 rfl) rfl rfl ?_
    refine kx_iastn (pc := 42) n (hm.t 25 rfl) (by decide) hn (by omega) (by decide) (kx_dd d_Mo_tell 23 rfl) ?_
    refine kx_aload_n (pc := 43) (kx_dd d_Mo_tell 24 rfl) rfl rfl ?_
    refine kx_getR (pc := 44) (b := 110) fl_Mo_288 (hm.k 0 rfl) rfl (hm.r 25 rfl) (kx_dd d_Mo_tell 25 rfl) ?_
    refine kx_aload_n (pc := 47) (kx_dd d_Mo_tell 26 rfl) rfl rfl ?_
    refine kx_getI (pc := 48) fl_Mo_432 (hm.k 0 rfl) rfl (kx_dd d_Mo_tell 27 rfl) ?_
    refine kx_iload (pc := 51) (kx_dd d_Mo_tell 28 rfl) rfl ?_
    refine kx_iastn (pc := 53) n (hm.t 26 rfl) (by decide) hn (by omega) (by decide) (kx_dd d_Mo_tell 29 rfl) ?_
    refine kx_aload_n (pc := 54) (kx_dd d_Mo_tell 30 rfl) rfl rfl ?_
    refine kx_getR (pc := 55) (b := 111) fl_Mo_291 (hm.k 0 rfl) rfl (hm.r 26 rfl) (kx_dd d_Mo_tell 31 rfl) ?_
    refine kx_aload_n (pc := 58) (kx_dd d_Mo_tell 32 rfl) rfl rfl ?_
    refine kx_getI (pc := 59) fl_Mo_432 (hm.k 0 rfl) rfl (kx_dd d_Mo_tell 33 rfl) ?_
    refine kx_iload (pc := 62) (kx_dd d_Mo_tell 34 rfl) rfl ?_
    refine kx_iastn (pc := 64) n (hm.t 27 rfl) (by decide) hn (by omega) (by decide) (kx_dd d_Mo_tell 35 rfl) ?_
    refine kx_aload_n (pc := 65) (kx_dd d_Mo_tell 36 rfl) rfl rfl ?_
    refine kx_getR (pc := 66) (b := 112) fl_Mo_294 (hm.k 0 rfl) rfl (hm.r 27 rfl) (kx_dd d_Mo_tell 37 rfl) ?_
    refine kx_aload_n (pc := 69) (kx_dd d_Mo_tell 38 rfl) rfl rfl ?_
    refine kx_getI (pc := 70) fl_Mo_432 (hm.k 0 rfl) rfl (kx_dd d_Mo_tell 39 rfl) ?_
    refine kx_aload_n (pc := 73) (kx_dd d_Mo_tell 40 rfl) rfl rfl ?_
    refine kx_getI (pc := 74) fl_Mo_426 (hm.k 0 rfl) rfl (kx_dd d_Mo_tell 41 rfl) ?_
    refine kx_iastn (pc := 77) n (hm.t 28 rfl) (by decide) hn (by omega) (by decide) (kx_dd d_Mo_tell 42 rfl) ?_
    refine kx_aload_n (pc := 78) (kx_dd d_Mo_tell 43 rfl) rfl rfl ?_
    refine kx_dup (pc := 79) (kx_dd d_Mo_tell 44 rfl) rfl ?_
    refine kx_getI (pc := 80) fl_Mo_432 (hm.k 0 rfl) rfl (kx_dd d_Mo_tell 45 rfl) ?_
    refine kx_iconst (pc := 83) (v := 1) (kx_dd d_Mo_tell 46 rfl) rfl ?_
    refine kx_iadd (pc := 84) (kx_dd d_Mo_tell 47 rfl) ?_
    refine kx_putI (pc := 85) fl_Mo_432 (hm.k 0 rfl) (by decide) rfl rfl (kx_dd d_Mo_tell 48 rfl) ?_
    refine kx_aload_n (pc := 88) (kx_dd d_Mo_tell 49 rfl) rfl rfl ?_
    refine kx_getI (pc := 89) fl_Mo_432 (hm.k 0 rfl) rfl (kx_dd d_Mo_tell 50 rfl) ?_
    refine kx_iret (pc := 92) rfl (kx_dd d_Mo_tell 51 rfl) (Nat.le_refl _) (Nat.le_refl _) ?_
    have e : ¬ n = 200 := by omega
    rw [if_neg e, if_neg e]
    refine ⟨?_, ?_⟩
    · simp [kx_setI, kx_up, hn, nI_1]
    · simp only [show (kx_setI (kx_setI (kx_setI (kx_setI (kx_setI h 107 n c) 108 n p) 109 n nu) 110 n ot) 111 n fr).1 84 36 = h.1 84 36 from rfl, show (kx_setI (kx_setI (kx_setI (kx_setI (kx_setI (kx_setI h 107 n c) 108 n p) 109 n nu) 110 n ot) 111 n fr) 112 n (h.1 84 36)).1 84 34 = nI n from hn, nI_1]
  · refine kx_bipush (pc := 10) (v := -3) (kx_dd d_Mo_tell 4 rfl) rfl ?_
    refine kx_iret (pc := 12) rfl (kx_dd d_Mo_tell 5 rfl) (Nat.le_refl _) (Nat.le_refl _) ?_
    have e : n = 200 := by
      rw [hn, show (200 : Int32) = nI 200 from rfl, nI_eq (by omega) (by decide)] at c7
      exact c7
    rw [if_pos e, if_pos e]
    exact ⟨rfl, rfl⟩
