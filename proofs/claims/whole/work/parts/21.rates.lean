/-! the reference: lots; rates on both sides -/
theorem y_mayJudge {l : Launch} {g : kx_G} {d : Nat} {h : kx_Mem} (hm : SM h) (s : PS) (ho : PSok s) (hp : PSm s h) (U : Nat → Prop) (hU : ∀ q, q < 60 → h.1 117 q = bP (U q)) (a b td : Nat) (haa : a ≤ 3) (hbb : b ≤ 3) (htd : td < 2 ^ 31) (hc : h.1 84 36 = nI td) (ha : h.1 84 37 = nI a) (hb : h.1 84 38 = nI b) (q : Nat) (hq0 : q < s.1) : kx_Sp l g m_Mo_mayJudge [.ref 84, .int (nI q)] h (d + 2) 0 0 (fun v h' => v = some (.int (bP (lotP s U a b td q))) ∧ h' = h) := by
  have o2 := ho.1
  have o5 := natF_le ho (p := q) (day := td) (kn := td)
  refine kx_enter_e (lv := [_, _, _]) (by decide +kernel) (Nat.le_of_ble_eq_true rfl) rfl ?_
  refine kx_aload_n (pc := 0) (kx_dd d_Mo_mayJudge 0 rfl) rfl rfl ?_
  refine kx_iload_n (pc := 1) (kx_dd d_Mo_mayJudge 1 rfl) rfl rfl ?_
  refine kx_aload_n (pc := 2) (kx_dd d_Mo_mayJudge 2 rfl) rfl rfl ?_
  refine kx_getI (pc := 3) fl_Mo_426 (hm.k 0 rfl) rfl (kx_dd d_Mo_mayJudge 3 rfl) ?_
  refine kx_aload_n (pc := 6) (kx_dd d_Mo_mayJudge 4 rfl) rfl rfl ?_
  refine kx_getI (pc := 7) fl_Mo_426 (hm.k 0 rfl) rfl (kx_dd d_Mo_mayJudge 5 rfl) ?_
  rw [hc]
  refine kx_invV (pc := 10) (a := 84) (as := [_, _, _]) (kx_dd d_Mo_mayJudge 6 rfl) ⟨lk_Mo_454, wi_Mo_nationFor, we_Mo_nationFor⟩ w_Mo_nationFor (hm.k 0 rfl) rfl rfl rfl rfl (Nat.le_of_ble_eq_true rfl) (y_nationFor (d := d) hm s ho hp q td td (by omega) htd htd) (Nat.le_refl _) ⟨Nat.le_refl _, Nat.le_refl _⟩ (fun v h' hq => ?_)
  obtain ⟨rfl, he⟩ := hq
  rw [he]
  clear he
  refine kx_istore_ne (pc := 13) (lv' := [_, _, _]) (kx_dd d_Mo_mayJudge 7 rfl) rfl (Nat.le_of_ble_eq_true rfl) rfl ?_
  refine kx_aload_n (pc := 14) (kx_dd d_Mo_mayJudge 8 rfl) rfl rfl ?_
  refine kx_getR (pc := 15) (b := 117) fl_Mo_309 (hm.k 0 rfl) rfl (hm.r 32 rfl) (kx_dd d_Mo_mayJudge 9 rfl) ?_
  refine kx_iload_n (pc := 18) (kx_dd d_Mo_mayJudge 10 rfl) rfl rfl ?_
  refine kx_zaldn (pc := 19) q (hm.t 33 rfl) rfl (by omega) (by decide) (kx_dd d_Mo_mayJudge 11 rfl) ?_
  refine kx_if_eq (pc := 20) (tgt := 59) (kx_dd d_Mo_mayJudge 12 rfl) rfl (fun c20 => ?_) (fun c20 => ?_)
  · refine kx_iconst (pc := 59) (v := 0) (kx_dd d_Mo_mayJudge 31 rfl) rfl ?_
    refine kx_zret (pc := 60) rfl rfl (kx_dd d_Mo_mayJudge 32 rfl) (Nat.le_refl _) (Nat.le_refl _) ?_
    rw [hU q (by omega), bP_0] at c20
    exact ⟨by rw [bP_f (fun z => c20 z.1)], rfl⟩
  · refine kx_aload_n (pc := 23) (kx_dd d_Mo_mayJudge 13 rfl) rfl rfl ?_
    refine kx_iload_n (pc := 24) (kx_dd d_Mo_mayJudge 14 rfl) rfl rfl ?_
    refine kx_aload_n (pc := 25) (kx_dd d_Mo_mayJudge 15 rfl) rfl rfl ?_
    refine kx_getI (pc := 26) fl_Mo_426 (hm.k 0 rfl) rfl (kx_dd d_Mo_mayJudge 16 rfl) ?_
    refine kx_aload_n (pc := 29) (kx_dd d_Mo_mayJudge 17 rfl) rfl rfl ?_
    refine kx_getI (pc := 30) fl_Mo_426 (hm.k 0 rfl) rfl (kx_dd d_Mo_mayJudge 18 rfl) ?_
    rw [hc]
    refine kx_invV (pc := 33) (a := 84) (as := [_, _, _]) (kx_dd d_Mo_mayJudge 19 rfl) ⟨lk_Mo_458, wi_Mo_isDead, we_Mo_isDead⟩ w_Mo_isDead (hm.k 0 rfl) rfl rfl rfl rfl (Nat.le_of_ble_eq_true rfl) (y_isDead (d := d) hm s ho hp q td td (by omega) htd htd) (Nat.le_refl _) ⟨Nat.le_refl _, Nat.le_refl _⟩ (fun v h' hq => ?_)
    obtain ⟨rfl, he⟩ := hq
    rw [he]
    clear he
    refine kx_if_ne (pc := 36) (tgt := 59) (kx_dd d_Mo_mayJudge 20 rfl) rfl (fun c36 => ?_) (fun c36 => ?_)
    · refine kx_iconst (pc := 59) (v := 0) (kx_dd d_Mo_mayJudge 31 rfl) rfl ?_
      refine kx_zret (pc := 60) rfl rfl (kx_dd d_Mo_mayJudge 32 rfl) (Nat.le_refl _) (Nat.le_refl _) ?_
      rw [bP_0, Classical.not_not] at c36
      exact ⟨by rw [bP_f (fun z => z.2.1 c36)], rfl⟩
    · refine kx_iload_n (pc := 39) (kx_dd d_Mo_mayJudge 21 rfl) rfl rfl ?_
      refine kx_aload_n (pc := 40) (kx_dd d_Mo_mayJudge 22 rfl) rfl rfl ?_
      refine kx_getI (pc := 41) fl_Mo_476 (hm.k 0 rfl) rfl (kx_dd d_Mo_mayJudge 23 rfl) ?_
      refine kx_icmp_eq (pc := 44) (tgt := 59) (kx_dd d_Mo_mayJudge 24 rfl) rfl (fun c44 => ?_) (fun c44 => ?_)
      · refine kx_iconst (pc := 59) (v := 0) (kx_dd d_Mo_mayJudge 31 rfl) rfl ?_
        refine kx_zret (pc := 60) rfl rfl (kx_dd d_Mo_mayJudge 32 rfl) (Nat.le_refl _) (Nat.le_refl _) ?_
        rw [ha, nI_eq (by omega) (by omega)] at c44
        exact ⟨by rw [bP_f (fun z => z.2.2.1 c44)], rfl⟩
      · refine kx_iload_n (pc := 47) (kx_dd d_Mo_mayJudge 25 rfl) rfl rfl ?_
        refine kx_aload_n (pc := 48) (kx_dd d_Mo_mayJudge 26 rfl) rfl rfl ?_
        refine kx_getI (pc := 49) fl_Mo_276 (hm.k 0 rfl) rfl (kx_dd d_Mo_mayJudge 27 rfl) ?_
        refine kx_icmp_eq (pc := 52) (tgt := 59) (kx_dd d_Mo_mayJudge 28 rfl) rfl (fun c52 => ?_) (fun c52 => ?_)
        · refine kx_iconst (pc := 59) (v := 0) (kx_dd d_Mo_mayJudge 31 rfl) rfl ?_
          refine kx_zret (pc := 60) rfl rfl (kx_dd d_Mo_mayJudge 32 rfl) (Nat.le_refl _) (Nat.le_refl _) ?_
          rw [hb, nI_eq (by omega) (by omega)] at c52
          exact ⟨by rw [bP_f (fun z => z.2.2.2 c52)], rfl⟩
        · refine kx_iconst (pc := 55) (v := 1) (kx_dd d_Mo_mayJudge 29 rfl) rfl ?_
          refine kx_goto (pc := 56) (tgt := 60) (kx_dd d_Mo_mayJudge 30 rfl) rfl ?_
          refine kx_zret (pc := 60) rfl rfl (kx_dd d_Mo_mayJudge 32 rfl) (Nat.le_refl _) (Nat.le_refl _) ?_
          rw [hU q (by omega), bP_0, Classical.not_not] at c20
          rw [bP_0] at c36
          rw [ha, nI_eq (by omega) (by omega)] at c44
          rw [hb, nI_eq (by omega) (by omega)] at c52
          exact ⟨by rw [bP_t ⟨c20, c36, c44, c52⟩], rfl⟩
theorem y_lotMany_loop {l : Launch} {g : kx_G} {d : Nat} {h : kx_Mem} (hm : SM h) (s : PS) (ho : PSok s) (hp : PSm s h) (U : Nat → Prop) (hU : ∀ q, q < 60 → h.1 117 q = bP (U q)) (a b td : Nat) (haa : a ≤ 3) (hbb : b ≤ 3) (htd : td < 2 ^ 31) (hc : h.1 84 36 = nI td) (ha : h.1 84 37 = nI a) (hb : h.1 84 38 = nI b) : ∀ n k, k + n = s.1 →  kx_X (l, g, m_Mo_lotMany, d + 3, 0, 0, (fun v h' => v = some (.int (nI (lotK s U a b td s.1))) ∧ h' = h)) 0 0 4 [some (.ref 84), some (.int (nI (lotK s U a b td k))), some (.int (nI k))] [] (h) := by
  intro n
  induction n with
  | zero =>
    intro k hk 
    have hk0 : k = s.1 := by omega
    subst hk0
    refine kx_iload_n (pc := 4) (kx_dd d_Mo_lotMany 4 rfl) rfl rfl ?_
    refine kx_aload_n (pc := 5) (kx_dd d_Mo_lotMany 5 rfl) rfl rfl ?_
    refine kx_getI (pc := 6) fl_Mo_429 (hm.k 0 rfl) rfl (kx_dd d_Mo_lotMany 6 rfl) ?_
    refine kx_icmp_ge (pc := 9) (tgt := 34) (kx_dd d_Mo_lotMany 7 rfl) rfl (fun c9 => ?_) (fun c9 => ?_)
    · refine kx_iload_n (pc := 34) (kx_dd d_Mo_lotMany 20 rfl) rfl rfl ?_
      refine kx_iret (pc := 35) rfl (kx_dd d_Mo_lotMany 21 rfl) (Nat.le_refl _) (Nat.le_refl _) ?_
      exact ⟨rfl, rfl⟩
    · exact absurd (by rw [hp.1]; exact Int32.le_refl _) c9
  | succ n ih =>
    intro k hk 
    have o2 := ho.1
    refine kx_iload_n (pc := 4) (kx_dd d_Mo_lotMany 4 rfl) rfl rfl ?_
    refine kx_aload_n (pc := 5) (kx_dd d_Mo_lotMany 5 rfl) rfl rfl ?_
    refine kx_getI (pc := 6) fl_Mo_429 (hm.k 0 rfl) rfl (kx_dd d_Mo_lotMany 6 rfl) ?_
    refine kx_icmp_ge (pc := 9) (tgt := 34) (kx_dd d_Mo_lotMany 7 rfl) rfl (fun c9 => ?_) (fun c9 => ?_)
    · exact absurd c9 (by rw [hp.1]; exact nI_ge (by omega) (by omega))
    · refine kx_iload_n (pc := 12) (kx_dd d_Mo_lotMany 8 rfl) rfl rfl ?_
      refine kx_aload_n (pc := 13) (kx_dd d_Mo_lotMany 9 rfl) rfl rfl ?_
      refine kx_iload_n (pc := 14) (kx_dd d_Mo_lotMany 10 rfl) rfl rfl ?_
      refine kx_invV (pc := 15) (a := 84) (as := [_]) (kx_dd d_Mo_lotMany 11 rfl) ⟨lk_Mo_579, wi_Mo_mayJudge, we_Mo_mayJudge⟩ w_Mo_mayJudge (hm.k 0 rfl) rfl rfl rfl rfl (Nat.le_of_ble_eq_true rfl) (y_mayJudge (d := d) hm s ho hp U hU a b td haa hbb htd hc ha hb k (by omega)) (Nat.le_refl _) ⟨Nat.le_refl _, Nat.le_refl _⟩ (fun v h' hq => ?_)
      obtain ⟨rfl, he⟩ := hq
      rw [he]
      clear he
      refine kx_if_eq (pc := 18) (tgt := 25) (kx_dd d_Mo_lotMany 12 rfl) rfl (fun c18 => ?_) (fun c18 => ?_)
      · refine kx_iconst (pc := 25) (v := 0) (kx_dd d_Mo_lotMany 15 rfl) rfl ?_
        refine kx_iadd (pc := 26) (kx_dd d_Mo_lotMany 16 rfl) ?_
        refine kx_istore_ne (pc := 27) (lv' := [_, _, _]) (kx_dd d_Mo_lotMany 17 rfl) rfl (Nat.le_of_ble_eq_true rfl) rfl ?_
        refine kx_iinc_e (pc := 28) (v := nI (k + 1)) (lv' := [_, _, _]) (kx_dd d_Mo_lotMany 18 rfl) rfl (Nat.le_of_ble_eq_true rfl) (nI_1 k) rfl ?_
        refine kx_goto (pc := 31) (tgt := 4) (kx_dd d_Mo_lotMany 19 rfl) rfl ?_
        rw [bP_0] at c18
        have e1 : lotK s U a b td (k + 1) = lotK s U a b td k := if_neg c18
        have ih1 := ih (k + 1) (by omega)
        rw [e1] at ih1
        rw [show nI (lotK s U a b td k) + 0 = nI (lotK s U a b td k) from nI_add _ 0]
        exact ih1
      · refine kx_iconst (pc := 21) (v := 1) (kx_dd d_Mo_lotMany 13 rfl) rfl ?_
        refine kx_goto (pc := 22) (tgt := 26) (kx_dd d_Mo_lotMany 14 rfl) rfl ?_
        refine kx_iadd (pc := 26) (kx_dd d_Mo_lotMany 16 rfl) ?_
        refine kx_istore_ne (pc := 27) (lv' := [_, _, _]) (kx_dd d_Mo_lotMany 17 rfl) rfl (Nat.le_of_ble_eq_true rfl) rfl ?_
        refine kx_iinc_e (pc := 28) (v := nI (k + 1)) (lv' := [_, _, _]) (kx_dd d_Mo_lotMany 18 rfl) rfl (Nat.le_of_ble_eq_true rfl) (nI_1 k) rfl ?_
        refine kx_goto (pc := 31) (tgt := 4) (kx_dd d_Mo_lotMany 19 rfl) rfl ?_
        rw [bP_0, Classical.not_not] at c18
        have e1 : lotK s U a b td (k + 1) = lotK s U a b td k + 1 := if_pos c18
        have ih1 := ih (k + 1) (by omega)
        rw [e1] at ih1
        rw [show nI (lotK s U a b td k) + 1 = nI (lotK s U a b td k + 1) from nI_1 _]
        exact ih1
theorem y_lotMany {l : Launch} {g : kx_G} {d : Nat} {h : kx_Mem} (hm : SM h) (s : PS) (ho : PSok s) (hp : PSm s h) (U : Nat → Prop) (hU : ∀ q, q < 60 → h.1 117 q = bP (U q)) (a b td : Nat) (haa : a ≤ 3) (hbb : b ≤ 3) (htd : td < 2 ^ 31) (hc : h.1 84 36 = nI td) (ha : h.1 84 37 = nI a) (hb : h.1 84 38 = nI b) : kx_Sp l g m_Mo_lotMany [.ref 84] h (d + 3) 0 0 (fun v h' => v = some (.int (nI (lotK s U a b td s.1))) ∧ h' = h) := by
  refine kx_enter_e (lv := [_, _, _]) (by decide +kernel) (Nat.le_of_ble_eq_true rfl) rfl ?_
  refine kx_iconst (pc := 0) (v := 0) (kx_dd d_Mo_lotMany 0 rfl) rfl ?_
  refine kx_istore_ne (pc := 1) (lv' := [_, _, _]) (kx_dd d_Mo_lotMany 1 rfl) rfl (Nat.le_of_ble_eq_true rfl) rfl ?_
  refine kx_iconst (pc := 2) (v := 0) (kx_dd d_Mo_lotMany 2 rfl) rfl ?_
  refine kx_istore_ne (pc := 3) (lv' := [_, _, _]) (kx_dd d_Mo_lotMany 3 rfl) rfl (Nat.le_of_ble_eq_true rfl) rfl ?_
  exact y_lotMany_loop hm s ho hp U hU a b td haa hbb htd hc ha hb s.1 0 (by omega)
/-- rates: how many, and of each its currency, day, pence -/
abbrev RS : Type := Nat × (Nat → Nat) × (Nat → Nat) × (Nat → Nat)
def RSok (s : RS) : Prop := s.1 ≤ 60 ∧ ∀ k, k < s.1 → 1 ≤ s.2.1 k ∧ s.2.1 k ≤ 3 ∧ s.2.2.1 k ≤ 1999 ∧ 1 ≤ s.2.2.2 k ∧ s.2.2.2 k ≤ 99999
def RSc (s : RS) (h : kx_Mem) : Prop := h.1 30 0 = nI s.1 ∧ ∀ k, k < s.1 → h.1 31 k = nI (s.2.1 k) ∧ h.1 32 k = nI (s.2.2.1 k) ∧ h.1 33 k = nI (s.2.2.2 k)
def RSm (s : RS) (h : kx_Mem) : Prop := h.1 84 35 = nI s.1 ∧ ∀ k, k < s.1 → h.1 113 k = nI (s.2.1 k) ∧ h.1 114 k = nI (s.2.2.1 k) ∧ h.1 115 k = nI (s.2.2.2 k)
def ratK (s : RS) (c day : Nat) : Nat → Nat × Nat
  | 0 => (100, 0)
  | k + 1 => if s.2.1 k = c ∧ s.2.2.1 k ≤ day ∧ (ratK s c day k).2 ≤ s.2.2.1 k + 1 then (s.2.2.2 k, s.2.2.1 k + 1) else ratK s c day k
def ratF (s : RS) (c day : Nat) : Nat := (ratK s c day s.1).1
theorem ratK_le {s : RS} (ho : RSok s) {c day : Nat} : ∀ k, k ≤ s.1 → 1 ≤ (ratK s c day k).1 ∧ (ratK s c day k).1 ≤ 99999 ∧ (ratK s c day k).2 ≤ 2000
  | 0, _ => by simp [ratK]
  | k + 1, hk => by
    have h1 := ratK_le ho (c := c) (day := day) k (by omega)
    have h2 := ho.2 k (by omega)
    unfold ratK
    split
    · simp only
      omega
    · exact h1
def besR (s : RS) (c day : Nat) : Nat → Nat
  | 0 => 0
  | k + 1 => if s.2.1 k = c ∧ s.2.2.1 k ≤ day ∧ (besR s c day k = 0 ∨ s.2.2.1 (besR s c day k - 1) ≤ s.2.2.1 k) then k + 1 else besR s c day k
theorem besR_rat {s : RS} {c day : Nat} : ∀ k, besR s c day k ≤ k ∧ ratK s c day k = (if besR s c day k = 0 then (100, 0) else (s.2.2.2 (besR s c day k - 1), s.2.2.1 (besR s c day k - 1) + 1))
  | 0 => by simp [besR, ratK]
  | k + 1 => by
    obtain ⟨h1, h3⟩ := besR_rat (s := s) (c := c) (day := day) k
    unfold besR ratK
    rw [h3]
    by_cases hb : besR s c day k = 0
    · simp only [hb, if_true, true_or, and_true]
      by_cases hc : s.2.1 k = c ∧ s.2.2.1 k ≤ day
      · simp [hc]
      · rw [if_neg hc, if_neg (fun z => hc ⟨z.1, z.2.1⟩)]
        simp
    · simp only [hb, if_false, false_or]
      by_cases hc : s.2.1 k = c ∧ s.2.2.1 k ≤ day ∧ s.2.2.1 (besR s c day k - 1) ≤ s.2.2.1 k
      · rw [if_pos hc, if_pos ⟨hc.1, hc.2.1, by omega⟩]
        simp
      · rw [if_neg hc, if_neg (fun z => hc ⟨z.1, z.2.1, by omega⟩)]
        simp [hb]
        omega
theorem x_Ra_penceFor_loop {l : Launch} {g : kx_G} {d : Nat} {h : kx_Mem} (hs : SC h) (s : RS) (ho : RSok s) (hp : RSc s h) (c day : Nat) (hcc : c < 2 ^ 31) (hday : day < 2 ^ 31) : ∀ n k, k + n = s.1 →  kx_X (l, g, m_Ra_penceFor, d, 0, 0, (fun v h' => v = some (.int (nI (ratF s c day))) ∧ h' = h)) 0 0 9 [some (.ref 30), some (.int (nI c)), some (.int (nI day)), some (.int (nI (ratK s c day k).1)), some (.int (nI (ratK s c day k).2 - 1)), some (.int (nI k))] [] (h) := by
  intro n
  induction n with
  | zero =>
    intro k hk 
    have hk0 : k = s.1 := by omega
    subst hk0
    refine kx_iload (pc := 9) (kx_dd d_Ra_penceFor 6 rfl) rfl ?_
    refine kx_aload_n (pc := 11) (kx_dd d_Ra_penceFor 7 rfl) rfl rfl ?_
    refine kx_getI (pc := 12) fl_Ra_21 (hs.k 30 rfl) rfl (kx_dd d_Ra_penceFor 8 rfl) ?_
    refine kx_icmp_ge (pc := 15) (tgt := 75) (kx_dd d_Ra_penceFor 9 rfl) rfl (fun c15 => ?_) (fun c15 => ?_)
    · refine kx_iload_n (pc := 75) (kx_dd d_Ra_penceFor 40 rfl) rfl rfl ?_
      refine kx_iret (pc := 76) rfl (kx_dd d_Ra_penceFor 41 rfl) (Nat.le_refl _) (Nat.le_refl _) ?_
      exact ⟨rfl, rfl⟩
    · exact absurd (by rw [hp.1]; exact Int32.le_refl _) c15
  | succ n ih =>
    intro k hk 
    obtain ⟨q1, q2, q3⟩ := hp.2 k (by omega)
    have o1 := ho.2 k (by omega)
    have o2 := ho.1
    have o4 := ratK_le ho (c := c) (day := day) k (by omega)
    refine kx_iload (pc := 9) (kx_dd d_Ra_penceFor 6 rfl) rfl ?_
    refine kx_aload_n (pc := 11) (kx_dd d_Ra_penceFor 7 rfl) rfl rfl ?_
    refine kx_getI (pc := 12) fl_Ra_21 (hs.k 30 rfl) rfl (kx_dd d_Ra_penceFor 8 rfl) ?_
    refine kx_icmp_ge (pc := 15) (tgt := 75) (kx_dd d_Ra_penceFor 9 rfl) rfl (fun c15 => ?_) (fun c15 => ?_)
    · exact absurd c15 (by rw [hp.1]; exact nI_ge (by omega) (by omega))
    · refine kx_aload_n (pc := 18) (kx_dd d_Ra_penceFor 10 rfl) rfl rfl ?_
      refine kx_getR (pc := 19) (b := 31) fl_Ra_11 (hs.k 30 rfl) rfl (hs.r 34 rfl) (kx_dd d_Ra_penceFor 11 rfl) ?_
      refine kx_iload (pc := 22) (kx_dd d_Ra_penceFor 12 rfl) rfl ?_
      refine kx_ialdn (pc := 24) k (hs.t 31 rfl) rfl (by omega) (by decide) (kx_dd d_Ra_penceFor 13 rfl) ?_
      refine kx_iload_n (pc := 25) (kx_dd d_Ra_penceFor 14 rfl) rfl rfl ?_
      refine kx_icmp_ne (pc := 26) (tgt := 69) (kx_dd d_Ra_penceFor 15 rfl) rfl (fun c26 => ?_) (fun c26 => ?_)
      · refine kx_iinc_e (pc := 69) (v := nI (k + 1)) (lv' := [_, _, _, _, _, _]) (kx_dd d_Ra_penceFor 38 rfl) rfl (Nat.le_of_ble_eq_true rfl) (nI_1 k) rfl ?_
        refine kx_goto (pc := 72) (tgt := 9) (kx_dd d_Ra_penceFor 39 rfl) rfl ?_
        simp (disch := omega) only [q1, q2, bP_0, bP_1, nI_eq, nI_ltI, nI_leI, nI_lt_p] at c26
        have e1 : ratK s c day (k + 1) = ratK s c day k := if_neg (by omega)
        have ih1 := ih (k + 1) (by omega)
        rw [e1] at ih1
        exact ih1
      · refine kx_aload_n (pc := 29) (kx_dd d_Ra_penceFor 16 rfl) rfl rfl ?_
        refine kx_getR (pc := 30) (b := 32) fl_Ra_15 (hs.k 30 rfl) rfl (hs.r 35 rfl) (kx_dd d_Ra_penceFor 17 rfl) ?_
        refine kx_iload (pc := 33) (kx_dd d_Ra_penceFor 18 rfl) rfl ?_
        refine kx_ialdn (pc := 35) k (hs.t 32 rfl) rfl (by omega) (by decide) (kx_dd d_Ra_penceFor 19 rfl) ?_
        refine kx_iload_n (pc := 36) (kx_dd d_Ra_penceFor 20 rfl) rfl rfl ?_
        refine kx_icmp_gt (pc := 37) (tgt := 69) (kx_dd d_Ra_penceFor 21 rfl) rfl (fun c37 => ?_) (fun c37 => ?_)
        · refine kx_iinc_e (pc := 69) (v := nI (k + 1)) (lv' := [_, _, _, _, _, _]) (kx_dd d_Ra_penceFor 38 rfl) rfl (Nat.le_of_ble_eq_true rfl) (nI_1 k) rfl ?_
          refine kx_goto (pc := 72) (tgt := 9) (kx_dd d_Ra_penceFor 39 rfl) rfl ?_
          simp (disch := omega) only [q1, q2, bP_0, bP_1, nI_eq, nI_ltI, nI_leI, nI_lt_p] at c26 c37
          have e1 : ratK s c day (k + 1) = ratK s c day k := if_neg (by omega)
          have ih1 := ih (k + 1) (by omega)
          rw [e1] at ih1
          exact ih1
        · refine kx_aload_n (pc := 40) (kx_dd d_Ra_penceFor 22 rfl) rfl rfl ?_
          refine kx_getR (pc := 41) (b := 32) fl_Ra_15 (hs.k 30 rfl) rfl (hs.r 35 rfl) (kx_dd d_Ra_penceFor 23 rfl) ?_
          refine kx_iload (pc := 44) (kx_dd d_Ra_penceFor 24 rfl) rfl ?_
          refine kx_ialdn (pc := 46) k (hs.t 32 rfl) rfl (by omega) (by decide) (kx_dd d_Ra_penceFor 25 rfl) ?_
          refine kx_iload (pc := 47) (kx_dd d_Ra_penceFor 26 rfl) rfl ?_
          refine kx_icmp_lt (pc := 49) (tgt := 69) (kx_dd d_Ra_penceFor 27 rfl) rfl (fun c49 => ?_) (fun c49 => ?_)
          · refine kx_iinc_e (pc := 69) (v := nI (k + 1)) (lv' := [_, _, _, _, _, _]) (kx_dd d_Ra_penceFor 38 rfl) rfl (Nat.le_of_ble_eq_true rfl) (nI_1 k) rfl ?_
            refine kx_goto (pc := 72) (tgt := 9) (kx_dd d_Ra_penceFor 39 rfl) rfl ?_
            simp (disch := omega) only [q1, q2, bP_0, bP_1, nI_eq, nI_ltI, nI_leI, nI_lt_p] at c26 c37 c49
            have e1 : ratK s c day (k + 1) = ratK s c day k := if_neg (by omega)
            have ih1 := ih (k + 1) (by omega)
            rw [e1] at ih1
            exact ih1
          · refine kx_aload_n (pc := 52) (kx_dd d_Ra_penceFor 28 rfl) rfl rfl ?_
            refine kx_getR (pc := 53) (b := 32) fl_Ra_15 (hs.k 30 rfl) rfl (hs.r 35 rfl) (kx_dd d_Ra_penceFor 29 rfl) ?_
            refine kx_iload (pc := 56) (kx_dd d_Ra_penceFor 30 rfl) rfl ?_
            refine kx_ialdn (pc := 58) k (hs.t 32 rfl) rfl (by omega) (by decide) (kx_dd d_Ra_penceFor 31 rfl) ?_
            refine kx_istore_e (pc := 59) (lv' := [_, _, _, _, _, _]) (kx_dd d_Ra_penceFor 32 rfl) (Nat.le_of_ble_eq_true rfl) rfl ?_
            refine kx_aload_n (pc := 61) (kx_dd d_Ra_penceFor 33 rfl) rfl rfl ?_
            refine kx_getR (pc := 62) (b := 33) fl_Ra_18 (hs.k 30 rfl) rfl (hs.r 36 rfl) (kx_dd d_Ra_penceFor 34 rfl) ?_
            refine kx_iload (pc := 65) (kx_dd d_Ra_penceFor 35 rfl) rfl ?_
            refine kx_ialdn (pc := 67) k (hs.t 33 rfl) rfl (by omega) (by decide) (kx_dd d_Ra_penceFor 36 rfl) ?_
            refine kx_istore_ne (pc := 68) (lv' := [_, _, _, _, _, _]) (kx_dd d_Ra_penceFor 37 rfl) rfl (Nat.le_of_ble_eq_true rfl) rfl ?_
            refine kx_iinc_e (pc := 69) (v := nI (k + 1)) (lv' := [_, _, _, _, _, _]) (kx_dd d_Ra_penceFor 38 rfl) rfl (Nat.le_of_ble_eq_true rfl) (nI_1 k) rfl ?_
            refine kx_goto (pc := 72) (tgt := 9) (kx_dd d_Ra_penceFor 39 rfl) rfl ?_
            simp (disch := omega) only [q1, q2, bP_0, bP_1, nI_eq, nI_ltI, nI_leI, nI_lt_p] at c26 c37 c49
            have e1 : ratK s c day (k + 1) = (s.2.2.2 k, s.2.2.1 k + 1) := if_pos (by omega)
            have ih1 := ih (k + 1) (by omega)
            rw [e1] at ih1
            rw [q2, q3]
            simp only [nI_pred] at ih1
            exact ih1
theorem x_Ra_penceFor {l : Launch} {g : kx_G} {d : Nat} {h : kx_Mem} (hs : SC h) (s : RS) (ho : RSok s) (hp : RSc s h) (c day : Nat) (hcc : c < 2 ^ 31) (hday : day < 2 ^ 31) : kx_Sp l g m_Ra_penceFor [.ref 30, .int (nI c), .int (nI day)] h (d) 0 0 (fun v h' => v = some (.int (nI (ratF s c day))) ∧ h' = h) := by
  refine kx_enter_e (lv := [_, _, _, _, _, _]) (by decide +kernel) (Nat.le_of_ble_eq_true rfl) rfl ?_
  refine kx_bipush (pc := 0) (v := 100) (kx_dd d_Ra_penceFor 0 rfl) rfl ?_
  refine kx_istore_ne (pc := 2) (lv' := [_, _, _, _, _, _]) (kx_dd d_Ra_penceFor 1 rfl) rfl (Nat.le_of_ble_eq_true rfl) rfl ?_
  refine kx_iconst (pc := 3) (v := -1) (kx_dd d_Ra_penceFor 2 rfl) rfl ?_
  refine kx_istore_e (pc := 4) (lv' := [_, _, _, _, _, _]) (kx_dd d_Ra_penceFor 3 rfl) (Nat.le_of_ble_eq_true rfl) rfl ?_
  refine kx_iconst (pc := 6) (v := 0) (kx_dd d_Ra_penceFor 4 rfl) rfl ?_
  refine kx_istore_e (pc := 7) (lv' := [_, _, _, _, _, _]) (kx_dd d_Ra_penceFor 5 rfl) (Nat.le_of_ble_eq_true rfl) rfl ?_
  exact x_Ra_penceFor_loop hs s ho hp c day hcc hday s.1 0 (by omega)
def amtF (s : RS) (m c day : Nat) : Nat := if m * ratF s c day / 100 < 999999 then m * ratF s c day / 100 else 999999
theorem amtI {m r : Nat} (hm : m < 2 ^ 31) (hr : r < 2 ^ 31) : (if (nI m).toInt64 * (nI r).toInt64 / 100 < 999999 then (nI m).toInt64 * (nI r).toInt64 / 100 else (999999 : Int64)).toInt32 = nI (if m * r / 100 < 999999 then m * r / 100 else 999999) := by
  have hb : m * r < 2 ^ 62 := by
    have : m * r ≤ (2 ^ 31 - 1) * (2 ^ 31 - 1) := Nat.mul_le_mul (by omega) (by omega)
    omega
  rw [nI_l hm, nI_l hr, lN_mul, show (100 : Int64) = lN 100 from rfl, pk_lDiv (by omega) (by decide) (by decide), show (999999 : Int64) = lN 999999 from rfl]
  by_cases h : m * r / 100 < 999999
  · rw [if_pos h, if_pos ((pk_lLT (by omega) (by decide)).mpr h), lN_i]
  · rw [if_neg h, if_neg (fun z => h ((pk_lLT (by omega) (by decide)).mp z)), lN_i]
theorem x_Ra_amountOf {l : Launch} {g : kx_G} {d : Nat} {h : kx_Mem} (hs : SC h) (s : RS) (ho : RSok s) (hp : RSc s h) (c day : Nat) (hcc : c < 2 ^ 31) (hday : day < 2 ^ 31) (m : Nat) (hm0 : m < 2 ^ 31) : kx_Sp l g m_Ra_amountOf [.ref 30, .int (nI m), .int (nI c), .int (nI day)] h (d + 1) 0 0 (fun v h' => v = some (.int (nI (amtF s m c day))) ∧ h' = h) := by
  refine kx_enter_e (lv := [_, _, _, _]) (by decide +kernel) (Nat.le_of_ble_eq_true rfl) rfl ?_
  refine kx_ldc2 (pc := 0) kl_Ra_25 (kx_dd d_Ra_amountOf 0 rfl) ?_
  refine kx_iload_n (pc := 3) (kx_dd d_Ra_amountOf 1 rfl) rfl rfl ?_
  refine kx_i2l (pc := 4) (kx_dd d_Ra_amountOf 2 rfl) ?_
  refine kx_aload_n (pc := 5) (kx_dd d_Ra_amountOf 3 rfl) rfl rfl ?_
  refine kx_iload_n (pc := 6) (kx_dd d_Ra_amountOf 4 rfl) rfl rfl ?_
  refine kx_iload_n (pc := 7) (kx_dd d_Ra_amountOf 5 rfl) rfl rfl ?_
  refine kx_invV (pc := 8) (a := 30) (as := [_, _]) (kx_dd d_Ra_amountOf 6 rfl) ⟨lk_Ra_27, wi_Ra_penceFor, we_Ra_penceFor⟩ w_Ra_penceFor (hs.k 30 rfl) rfl rfl rfl rfl (Nat.le_of_ble_eq_true rfl) (x_Ra_penceFor (d := d) hs s ho hp c day hcc hday) (Nat.le_refl _) ⟨Nat.le_refl _, Nat.le_refl _⟩ (fun v h' hq => ?_)
  obtain ⟨rfl, he⟩ := hq
  rw [he]
  clear he
  refine kx_i2l (pc := 11) (kx_dd d_Ra_amountOf 7 rfl) ?_
  refine kx_lmul (pc := 12) (kx_dd d_Ra_amountOf 8 rfl) ?_
  refine kx_ldc2 (pc := 13) kl_Ra_31 (kx_dd d_Ra_amountOf 9 rfl) ?_
  refine kx_ldiv (pc := 16) (kx_dd d_Ra_amountOf 10 rfl) (by decide) ?_
  refine kx_mminL (pc := 17) mk_Ra_33 (kx_dd d_Ra_amountOf 11 rfl) (Nat.le_of_ble_eq_true rfl) (Nat.le_of_ble_eq_true rfl) (Nat.le_refl _) (Nat.le_refl _) ?_
  refine kx_l2i (pc := 20) (kx_dd d_Ra_amountOf 12 rfl) ?_
  refine kx_iret (pc := 21) rfl (kx_dd d_Ra_amountOf 13 rfl) (Nat.le_refl _) (Nat.le_refl _) ?_
  have o4 := ratK_le ho (c := c) (day := day) s.1 (Nat.le_refl _)
  exact ⟨by unfold amtF; rw [← amtI hm0 (show ratF s c day < 2 ^ 31 by unfold ratF; omega)], rfl⟩
theorem x_Ra_add {l : Launch} {g : kx_G} {d : Nat} {h : kx_Mem} (hs : SC h) (n : Nat) (hn : h.1 30 0 = nI n) (hn2 : n ≤ 60) (c dy pe : Int32) : kx_Sp l g m_Ra_add [.ref 30, .int c, .int dy, .int pe] h (d) 0 0 (fun v h' => v = some (.int (if n = 60 then -3 else nI (n + 1))) ∧ h' = (if n = 60 then h else kx_setI (kx_setI (kx_setI (kx_setI h 31 n c) 32 n dy) 33 n pe) 30 0 (nI (n + 1)))) := by
  refine kx_enter_e (lv := [_, _, _, _]) (by decide +kernel) (Nat.le_of_ble_eq_true rfl) rfl ?_
  refine kx_aload_n (pc := 0) (kx_dd d_Ra_add 0 rfl) rfl rfl ?_
  refine kx_getI (pc := 1) fl_Ra_21 (hs.k 30 rfl) rfl (kx_dd d_Ra_add 1 rfl) ?_
  refine kx_bipush (pc := 4) (v := 60) (kx_dd d_Ra_add 2 rfl) rfl ?_
  refine kx_icmp_lt (pc := 6) (tgt := 12) (kx_dd d_Ra_add 3 rfl) rfl (fun c6 => ?_) (fun c6 => ?_)
  · have hnn : n < 60 := by
      rw [hn] at c6
      exact (nI_ltI (b := 60) (by omega) (by decide)).mp c6
    refine kx_aload_n (pc := 12) (kx_dd d_Ra_add 6 rfl) rfl rfl ?_
    refine kx_getR (pc := 13) (b := 31) fl_Ra_11 (hs.k 30 rfl) rfl (hs.r 34 rfl) (kx_dd d_Ra_add 7 rfl) ?_
    refine kx_aload_n (pc := 16) (kx_dd d_Ra_add 8 rfl) rfl rfl ?_
    refine kx_getI (pc := 17) fl_Ra_21 (hs.k 30 rfl) rfl (kx_dd d_Ra_add 9 rfl) ?_
    refine kx_iload_n (pc := 20) (kx_dd d_Ra_add 10 rfl) rfl rfl ?_
    refine kx_iastn (pc := 21) n (hs.t 31 rfl) (by decide) hn (by omega) (by decide) (kx_dd d_Ra_add 11 rfl) ?_
    refine kx_aload_n (pc := 22) (kx_dd d_Ra_add 12 rfl) rfl rfl ?_
    refine kx_getR (pc := 23) (b := 32) fl_Ra_15 (hs.k 30 rfl) rfl (hs.r 35 rfl) (kx_dd d_Ra_add 13 rfl) ?_
    refine kx_aload_n (pc := 26) (kx_dd d_Ra_add 14 rfl) rfl rfl ?_
    refine kx_getI (pc := 27) fl_Ra_21 (hs.k 30 rfl) rfl (kx_dd d_Ra_add 15 rfl) ?_
    refine kx_iload_n (pc := 30) (kx_dd d_Ra_add 16 rfl) rfl rfl ?_
    refine kx_iastn (pc := 31) n (hs.t 32 rfl) (by decide) hn (by omega) (by decide) (kx_dd d_Ra_add 17 rfl) ?_
    refine kx_aload_n (pc := 32) (kx_dd d_Ra_add 18 rfl) rfl rfl ?_
    refine kx_getR (pc := 33) (b := 33) fl_Ra_18 (hs.k 30 rfl) rfl (hs.r 36 rfl) (kx_dd d_Ra_add 19 rfl) ?_
    refine kx_aload_n (pc := 36) (kx_dd d_Ra_add 20 rfl) rfl rfl ?_
    refine kx_getI (pc := 37) fl_Ra_21 (hs.k 30 rfl) rfl (kx_dd d_Ra_add 21 rfl) ?_
    refine kx_iload_n (pc := 40) (kx_dd d_Ra_add 22 rfl) rfl rfl ?_
    refine kx_iastn (pc := 41) n (hs.t 33 rfl) (by decide) hn (by omega) (by decide) (kx_dd d_Ra_add 23 rfl) ?_
    refine kx_aload_n (pc := 42) (kx_dd d_Ra_add 24 rfl) rfl rfl ?_
    refine kx_dup (pc := 43) (kx_dd d_Ra_add 25 rfl) rfl ?_
    refine kx_getI (pc := 44) fl_Ra_21 (hs.k 30 rfl) rfl (kx_dd d_Ra_add 26 rfl) ?_
    refine kx_iconst (pc := 47) (v := 1) (kx_dd d_Ra_add 27 rfl) rfl ?_
    refine kx_iadd (pc := 48) (kx_dd d_Ra_add 28 rfl) ?_
    refine kx_putI (pc := 49) fl_Ra_21 (hs.k 30 rfl) (by decide) rfl rfl (kx_dd d_Ra_add 29 rfl) ?_
    refine kx_aload_n (pc := 52) (kx_dd d_Ra_add 30 rfl) rfl rfl ?_
    refine kx_getI (pc := 53) fl_Ra_21 (hs.k 30 rfl) rfl (kx_dd d_Ra_add 31 rfl) ?_
    refine kx_iret (pc := 56) rfl (kx_dd d_Ra_add 32 rfl) (Nat.le_refl _) (Nat.le_refl _) ?_
    have e : ¬ n = 60 := by omega
    rw [if_neg e, if_neg e]
    refine ⟨?_, ?_⟩
    · simp [kx_setI, kx_up, hn, nI_1]
    · simp only [show (kx_setI (kx_setI (kx_setI h 31 n c) 32 n dy) 33 n pe).1 30 0 = nI n from hn, nI_1]
  · refine kx_bipush (pc := 9) (v := -3) (kx_dd d_Ra_add 4 rfl) rfl ?_
    refine kx_iret (pc := 11) rfl (kx_dd d_Ra_add 5 rfl) (Nat.le_refl _) (Nat.le_refl _) ?_
    have e : n = 60 := by
      rcases Nat.lt_or_ge n 60 with q | q
      · exact absurd (show h.1 30 0 < 60 by rw [hn]; exact nI_lt (b := 60) q (by decide)) c6
      · omega
    rw [if_pos e, if_pos e]
    exact ⟨rfl, rfl⟩
theorem y_rateFor_loop {l : Launch} {g : kx_G} {d : Nat} {h : kx_Mem} (hm : SM h) (s : RS) (ho : RSok s) (hp : RSm s h) (c day : Nat) (hcc : c < 2 ^ 31) (hday : day < 2 ^ 31) : ∀ n k, k + n = s.1 →  kx_X (l, g, m_Mo_rateFor, d, 0, 0, (fun v h' => v = some (.int (nI (ratF s c day))) ∧ h' = h)) 0 0 5 [some (.ref 84), some (.int (nI c)), some (.int (nI day)), some (.int (nI (besR s c day k) - 1)), some (.int (nI k))] [] (h) := by
  intro n
  induction n with
  | zero =>
    intro k hk 
    have hk0 : k = s.1 := by omega
    subst hk0
    have ob := besR_rat (s := s) (c := c) (day := day) s.1
    have o3 := ho.1
    refine kx_iload (pc := 5) (kx_dd d_Mo_rateFor 4 rfl) rfl ?_
    refine kx_aload_n (pc := 7) (kx_dd d_Mo_rateFor 5 rfl) rfl rfl ?_
    refine kx_getI (pc := 8) fl_Mo_470 (hm.k 0 rfl) rfl (kx_dd d_Mo_rateFor 6 rfl) ?_
    refine kx_icmp_ge (pc := 11) (tgt := 66) (kx_dd d_Mo_rateFor 7 rfl) rfl (fun c11 => ?_) (fun c11 => ?_)
    · refine kx_iload_n (pc := 66) (kx_dd d_Mo_rateFor 36 rfl) rfl rfl ?_
      refine kx_iconst (pc := 67) (v := -1) (kx_dd d_Mo_rateFor 37 rfl) rfl ?_
      refine kx_icmp_ne (pc := 68) (tgt := 76) (kx_dd d_Mo_rateFor 38 rfl) rfl (fun c68 => ?_) (fun c68 => ?_)
      · have hb0 : besR s c day s.1 ≠ 0 := fun z => c68 ((nI_m1 (by omega)).mpr z)
        have hb6 := (hp.2 (besR s c day s.1 - 1) (by omega)).2.2
        refine kx_aload_n (pc := 76) (kx_dd d_Mo_rateFor 41 rfl) rfl rfl ?_
        refine kx_getR (pc := 77) (b := 115) fl_Mo_303 (hm.k 0 rfl) rfl (hm.r 30 rfl) (kx_dd d_Mo_rateFor 42 rfl) ?_
        refine kx_iload_n (pc := 80) (kx_dd d_Mo_rateFor 43 rfl) rfl rfl ?_
        refine kx_ialdn (pc := 81) (besR s c day s.1 - 1) (hm.t 31 rfl) (nI_m1' (by omega)) (by omega) (by decide) (kx_dd d_Mo_rateFor 44 rfl) ?_
        refine kx_iret (pc := 82) rfl (kx_dd d_Mo_rateFor 45 rfl) (Nat.le_refl _) (Nat.le_refl _) ?_
        refine ⟨?_, rfl⟩
        unfold ratF
        rw [ob.2, if_neg hb0, hb6]
      · refine kx_bipush (pc := 71) (v := 100) (kx_dd d_Mo_rateFor 39 rfl) rfl ?_
        refine kx_goto (pc := 73) (tgt := 82) (kx_dd d_Mo_rateFor 40 rfl) rfl ?_
        refine kx_iret (pc := 82) rfl (kx_dd d_Mo_rateFor 45 rfl) (Nat.le_refl _) (Nat.le_refl _) ?_
        rw [nI_m1 (by omega)] at c68
        refine ⟨?_, rfl⟩
        unfold ratF
        rw [ob.2, if_pos c68]
        rfl
    · exact absurd (by rw [hp.1]; exact Int32.le_refl _) c11
  | succ n ih =>
    intro k hk 
    obtain ⟨q1, q2, q3⟩ := hp.2 k (by omega)
    have o1 := ho.2 k (by omega)
    have o2 := ho.1
    have ob := besR_rat (s := s) (c := c) (day := day) k
    refine kx_iload (pc := 5) (kx_dd d_Mo_rateFor 4 rfl) rfl ?_
    refine kx_aload_n (pc := 7) (kx_dd d_Mo_rateFor 5 rfl) rfl rfl ?_
    refine kx_getI (pc := 8) fl_Mo_470 (hm.k 0 rfl) rfl (kx_dd d_Mo_rateFor 6 rfl) ?_
    refine kx_icmp_ge (pc := 11) (tgt := 66) (kx_dd d_Mo_rateFor 7 rfl) rfl (fun c11 => ?_) (fun c11 => ?_)
    · exact absurd c11 (by rw [hp.1]; exact nI_ge (by omega) (by omega))
    · refine kx_aload_n (pc := 14) (kx_dd d_Mo_rateFor 8 rfl) rfl rfl ?_
      refine kx_getR (pc := 15) (b := 113) fl_Mo_297 (hm.k 0 rfl) rfl (hm.r 28 rfl) (kx_dd d_Mo_rateFor 9 rfl) ?_
      refine kx_iload (pc := 18) (kx_dd d_Mo_rateFor 10 rfl) rfl ?_
      refine kx_ialdn (pc := 20) k (hm.t 29 rfl) rfl (by omega) (by decide) (kx_dd d_Mo_rateFor 11 rfl) ?_
      refine kx_iload_n (pc := 21) (kx_dd d_Mo_rateFor 12 rfl) rfl rfl ?_
      refine kx_icmp_ne (pc := 22) (tgt := 60) (kx_dd d_Mo_rateFor 13 rfl) rfl (fun c22 => ?_) (fun c22 => ?_)
      · refine kx_iinc_e (pc := 60) (v := nI (k + 1)) (lv' := [_, _, _, _, _]) (kx_dd d_Mo_rateFor 34 rfl) rfl (Nat.le_of_ble_eq_true rfl) (nI_1 k) rfl ?_
        refine kx_goto (pc := 63) (tgt := 5) (kx_dd d_Mo_rateFor 35 rfl) rfl ?_
        rw [q1, nI_eq (by omega) (by omega)] at c22
        have e1 : besR s c day (k + 1) = besR s c day k := if_neg (by omega)
        have ih1 := ih (k + 1) (by omega)
        rw [e1] at ih1
        exact ih1
      · refine kx_aload_n (pc := 25) (kx_dd d_Mo_rateFor 14 rfl) rfl rfl ?_
        refine kx_getR (pc := 26) (b := 114) fl_Mo_300 (hm.k 0 rfl) rfl (hm.r 29 rfl) (kx_dd d_Mo_rateFor 15 rfl) ?_
        refine kx_iload (pc := 29) (kx_dd d_Mo_rateFor 16 rfl) rfl ?_
        refine kx_ialdn (pc := 31) k (hm.t 30 rfl) rfl (by omega) (by decide) (kx_dd d_Mo_rateFor 17 rfl) ?_
        refine kx_iload_n (pc := 32) (kx_dd d_Mo_rateFor 18 rfl) rfl rfl ?_
        refine kx_icmp_gt (pc := 33) (tgt := 60) (kx_dd d_Mo_rateFor 19 rfl) rfl (fun c33 => ?_) (fun c33 => ?_)
        · refine kx_iinc_e (pc := 60) (v := nI (k + 1)) (lv' := [_, _, _, _, _]) (kx_dd d_Mo_rateFor 34 rfl) rfl (Nat.le_of_ble_eq_true rfl) (nI_1 k) rfl ?_
          refine kx_goto (pc := 63) (tgt := 5) (kx_dd d_Mo_rateFor 35 rfl) rfl ?_
          rw [q1, nI_eq (by omega) (by omega)] at c22
          rw [q2, nI_ltI (by omega) (by omega)] at c33
          have e1 : besR s c day (k + 1) = besR s c day k := if_neg (by omega)
          have ih1 := ih (k + 1) (by omega)
          rw [e1] at ih1
          exact ih1
        · refine kx_iload_n (pc := 36) (kx_dd d_Mo_rateFor 20 rfl) rfl rfl ?_
          refine kx_iconst (pc := 37) (v := -1) (kx_dd d_Mo_rateFor 21 rfl) rfl ?_
          refine kx_icmp_eq (pc := 38) (tgt := 57) (kx_dd d_Mo_rateFor 22 rfl) rfl (fun c38 => ?_) (fun c38 => ?_)
          · refine kx_iload (pc := 57) (kx_dd d_Mo_rateFor 32 rfl) rfl ?_
            refine kx_istore_ne (pc := 59) (lv' := [_, _, _, _, _]) (kx_dd d_Mo_rateFor 33 rfl) rfl (Nat.le_of_ble_eq_true rfl) rfl ?_
            refine kx_iinc_e (pc := 60) (v := nI (k + 1)) (lv' := [_, _, _, _, _]) (kx_dd d_Mo_rateFor 34 rfl) rfl (Nat.le_of_ble_eq_true rfl) (nI_1 k) rfl ?_
            refine kx_goto (pc := 63) (tgt := 5) (kx_dd d_Mo_rateFor 35 rfl) rfl ?_
            rw [q1, nI_eq (by omega) (by omega)] at c22
            rw [q2, nI_ltI (by omega) (by omega)] at c33
            rw [nI_m1 (by omega)] at c38
            have e1 : besR s c day (k + 1) = k + 1 := if_pos (by omega)
            have ih1 := ih (k + 1) (by omega)
            rw [e1, nI_pred] at ih1
            exact ih1
          · have hb0 : besR s c day k ≠ 0 := fun z => c38 ((nI_m1 (by omega)).mpr z)
            have hb5 := (hp.2 (besR s c day k - 1) (by omega)).2.1
            have ho5 := (ho.2 (besR s c day k - 1) (by omega)).2.2.1
            refine kx_aload_n (pc := 41) (kx_dd d_Mo_rateFor 23 rfl) rfl rfl ?_
            refine kx_getR (pc := 42) (b := 114) fl_Mo_300 (hm.k 0 rfl) rfl (hm.r 29 rfl) (kx_dd d_Mo_rateFor 24 rfl) ?_
            refine kx_iload (pc := 45) (kx_dd d_Mo_rateFor 25 rfl) rfl ?_
            refine kx_ialdn (pc := 47) k (hm.t 30 rfl) rfl (by omega) (by decide) (kx_dd d_Mo_rateFor 26 rfl) ?_
            refine kx_aload_n (pc := 48) (kx_dd d_Mo_rateFor 27 rfl) rfl rfl ?_
            refine kx_getR (pc := 49) (b := 114) fl_Mo_300 (hm.k 0 rfl) rfl (hm.r 29 rfl) (kx_dd d_Mo_rateFor 28 rfl) ?_
            refine kx_iload_n (pc := 52) (kx_dd d_Mo_rateFor 29 rfl) rfl rfl ?_
            refine kx_ialdn (pc := 53) (besR s c day k - 1) (hm.t 30 rfl) (nI_m1' (by omega)) (by omega) (by decide) (kx_dd d_Mo_rateFor 30 rfl) ?_
            refine kx_icmp_lt (pc := 54) (tgt := 60) (kx_dd d_Mo_rateFor 31 rfl) rfl (fun c54 => ?_) (fun c54 => ?_)
            · refine kx_iinc_e (pc := 60) (v := nI (k + 1)) (lv' := [_, _, _, _, _]) (kx_dd d_Mo_rateFor 34 rfl) rfl (Nat.le_of_ble_eq_true rfl) (nI_1 k) rfl ?_
              refine kx_goto (pc := 63) (tgt := 5) (kx_dd d_Mo_rateFor 35 rfl) rfl ?_
              rw [q1, nI_eq (by omega) (by omega)] at c22
              rw [q2, nI_ltI (by omega) (by omega)] at c33
              rw [q2, hb5, nI_ltI (by omega) (by omega)] at c54
              have e1 : besR s c day (k + 1) = besR s c day k := if_neg (by omega)
              have ih1 := ih (k + 1) (by omega)
              rw [e1] at ih1
              exact ih1
            · refine kx_iload (pc := 57) (kx_dd d_Mo_rateFor 32 rfl) rfl ?_
              refine kx_istore_ne (pc := 59) (lv' := [_, _, _, _, _]) (kx_dd d_Mo_rateFor 33 rfl) rfl (Nat.le_of_ble_eq_true rfl) rfl ?_
              refine kx_iinc_e (pc := 60) (v := nI (k + 1)) (lv' := [_, _, _, _, _]) (kx_dd d_Mo_rateFor 34 rfl) rfl (Nat.le_of_ble_eq_true rfl) (nI_1 k) rfl ?_
              refine kx_goto (pc := 63) (tgt := 5) (kx_dd d_Mo_rateFor 35 rfl) rfl ?_
              rw [q1, nI_eq (by omega) (by omega)] at c22
              rw [q2, nI_ltI (by omega) (by omega)] at c33
              rw [q2, hb5, nI_ltI (by omega) (by omega)] at c54
              have e1 : besR s c day (k + 1) = k + 1 := if_pos (by omega)
              have ih1 := ih (k + 1) (by omega)
              rw [e1, nI_pred] at ih1
              exact ih1
theorem y_rateFor {l : Launch} {g : kx_G} {d : Nat} {h : kx_Mem} (hm : SM h) (s : RS) (ho : RSok s) (hp : RSm s h) (c day : Nat) (hcc : c < 2 ^ 31) (hday : day < 2 ^ 31) : kx_Sp l g m_Mo_rateFor [.ref 84, .int (nI c), .int (nI day)] h (d) 0 0 (fun v h' => v = some (.int (nI (ratF s c day))) ∧ h' = h) := by
  refine kx_enter_e (lv := [_, _, _, _, _]) (by decide +kernel) (Nat.le_of_ble_eq_true rfl) rfl ?_
  refine kx_iconst (pc := 0) (v := -1) (kx_dd d_Mo_rateFor 0 rfl) rfl ?_
  refine kx_istore_ne (pc := 1) (lv' := [_, _, _, _, _]) (kx_dd d_Mo_rateFor 1 rfl) rfl (Nat.le_of_ble_eq_true rfl) rfl ?_
  refine kx_iconst (pc := 2) (v := 0) (kx_dd d_Mo_rateFor 2 rfl) rfl ?_
  refine kx_istore_e (pc := 3) (lv' := [_, _, _, _, _]) (kx_dd d_Mo_rateFor 3 rfl) (Nat.le_of_ble_eq_true rfl) rfl ?_
  exact y_rateFor_loop hm s ho hp c day hcc hday s.1 0 (by omega)
