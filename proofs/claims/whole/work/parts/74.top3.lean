/-! top-level: feed, end, purse, umpire, lots, heirOn -/
theorem x_Tc_feed {l : Launch} {g : kx_G} {d : Nat} {h : kx_Mem} (hs : SC h) (b : Nat → Int32) (n : Nat) (hn0 : n ≤ 600) (h1 : h.1 1 1 = nI n) (h2 : ∀ j, j < n → h.1 2 j = b j) (a1 a2 a3 a4 a5 : Int32) : kx_Sp l g m_Tc_feed [.ref 0, .int a1, .int a2, .int a3, .int a4, .int a5] h (d + 2) 0 0 (fun v h' => (n + 20 ≤ 600 → v = some (.int (nI (n + 20))) ∧ h'.1 1 1 = nI (n + 20) ∧ (∀ j, j < n + 20 → h'.1 2 j = fed b n a1 a2 a3 a4 a5 j) ∧ kx_Fc (fun a j => a = 2 ∨ (a = 1 ∧ j = 1)) h h') ∧ (¬ n + 20 ≤ 600 → v = some (.int (-3)) ∧ h' = h)) := by
  refine kx_enter_e (lv := [_, _, _, _, _, _]) (by decide +kernel) (Nat.le_of_ble_eq_true rfl) rfl ?_
  refine kx_aload_n (pc := 0) (kx_dd d_Tc_feed 0 rfl) rfl rfl ?_
  refine kx_getR (pc := 1) (b := 1) fl_Tc_10 (hs.k 0 rfl) rfl (hs.r 0 rfl) (kx_dd d_Tc_feed 1 rfl) ?_
  refine kx_iload_n (pc := 4) (kx_dd d_Tc_feed 2 rfl) rfl rfl ?_
  refine kx_iload_n (pc := 5) (kx_dd d_Tc_feed 3 rfl) rfl rfl ?_
  refine kx_iload_n (pc := 6) (kx_dd d_Tc_feed 4 rfl) rfl rfl ?_
  refine kx_iload (pc := 7) (kx_dd d_Tc_feed 5 rfl) rfl ?_
  refine kx_iload (pc := 9) (kx_dd d_Tc_feed 6 rfl) rfl ?_
  refine kx_invV (pc := 11) (a := 1) (as := [_, _, _, _, _]) (kx_dd d_Tc_feed 7 rfl) ⟨lk_Tc_82, wi_Ta_append, we_Ta_append⟩ w_Ta_append (hs.k 1 rfl) rfl rfl rfl rfl (Nat.le_of_ble_eq_true rfl) (x_Ta_append (d := d) hs b n hn0 h1 h2 a1 a2 a3 a4 a5) (Nat.le_refl _) ⟨Nat.le_refl _, Nat.le_refl _⟩ (fun v h' hq => ?_)
  by_cases e9 : n + 20 ≤ 600
  · obtain ⟨rfl, k9⟩ := hq.1 e9
    refine kx_iret (pc := 14) rfl (kx_dd d_Tc_feed 8 rfl) (Nat.le_refl _) (Nat.le_refl _) ?_
    exact ⟨fun _ => ⟨rfl, k9⟩, fun z => absurd e9 z⟩
  · obtain ⟨rfl, k9⟩ := hq.2 e9
    refine kx_iret (pc := 14) rfl (kx_dd d_Tc_feed 8 rfl) (Nat.le_refl _) (Nat.le_refl _) ?_
    exact ⟨fun z => absurd z e9, fun _ => ⟨rfl, k9⟩⟩
theorem x_Tc_end {l : Launch} {g : kx_G} {d : Nat} {h : kx_Mem} (hs : SC h) (n : Nat) (hn : n ≤ 600) (h1 : h.1 1 1 = nI n) (q : Int32) : kx_Sp l g m_Tc_end [.ref 0, .int q] h (d + 1) 0 0 (fun v h' => ((0 ≤ q ∧ q ≤ nI n) → v = some (.int q) ∧ h' = kx_setI h 1 1 q) ∧ (¬ (0 ≤ q ∧ q ≤ nI n) → v = some (.int (-1)) ∧ h' = h)) := by
  refine kx_enter_e (lv := [_, _]) (by decide +kernel) (Nat.le_of_ble_eq_true rfl) rfl ?_
  refine kx_aload_n (pc := 0) (kx_dd d_Tc_end 0 rfl) rfl rfl ?_
  refine kx_getR (pc := 1) (b := 1) fl_Tc_10 (hs.k 0 rfl) rfl (hs.r 0 rfl) (kx_dd d_Tc_end 1 rfl) ?_
  refine kx_iload_n (pc := 4) (kx_dd d_Tc_end 2 rfl) rfl rfl ?_
  refine kx_invV (pc := 5) (a := 1) (as := [_]) (kx_dd d_Tc_end 3 rfl) ⟨lk_Tc_86, wi_Ta_cut, we_Ta_cut⟩ w_Ta_cut (hs.k 1 rfl) rfl rfl rfl rfl (Nat.le_of_ble_eq_true rfl) (x_Ta_cut (d := d) hs n hn h1 q) (Nat.le_refl _) ⟨Nat.le_refl _, Nat.le_refl _⟩ (fun v h' hq => ?_)
  by_cases e9 : 0 ≤ q ∧ q ≤ nI n
  · obtain ⟨rfl, k9⟩ := hq.1 e9
    refine kx_iret (pc := 8) rfl (kx_dd d_Tc_end 4 rfl) (Nat.le_refl _) (Nat.le_refl _) ?_
    exact ⟨fun _ => ⟨rfl, k9⟩, fun z => absurd e9 z⟩
  · obtain ⟨rfl, k9⟩ := hq.2 e9
    refine kx_iret (pc := 8) rfl (kx_dd d_Tc_end 4 rfl) (Nat.le_refl _) (Nat.le_refl _) ?_
    exact ⟨fun z => absurd z e9, fun _ => ⟨rfl, k9⟩⟩
theorem x_Tc_purse {l : Launch} {g : kx_G} {d : Nat} {h : kx_Mem} (hs : SC h) (s : PS) (ho : PSok s) (hp : PSc s h) (a : Int32) : kx_Sp l g m_Tc_purse [.ref 0, .int a] h (d + 2) 0 0 (fun v h' => v = some (.int (if 0 ≤ a ∧ a < nI s.1 then h.1 16 a.toNatClampNeg else -2)) ∧ h' = h) := by
  have e14 : h.1 14 0 = nI s.1 := hp.1
  have o1 := ho.1
  refine kx_enter_e (lv := [_, _]) (by decide +kernel) (Nat.le_of_ble_eq_true rfl) rfl ?_
  refine kx_aload_n (pc := 0) (kx_dd d_Tc_purse 0 rfl) rfl rfl ?_
  refine kx_getR (pc := 1) (b := 14) fl_Tc_34 (hs.k 0 rfl) rfl (hs.r 3 rfl) (kx_dd d_Tc_purse 1 rfl) ?_
  refine kx_iload_n (pc := 4) (kx_dd d_Tc_purse 2 rfl) rfl rfl ?_
  refine kx_invV (pc := 5) (a := 14) (as := [_]) (kx_dd d_Tc_purse 3 rfl) ⟨lk_Tc_101, wi_Pe_has, we_Pe_has⟩ w_Pe_has (hs.k 14 rfl) rfl rfl rfl rfl (Nat.le_of_ble_eq_true rfl) (x_Pe_has (d := d + 1) hs a) (Nat.le_refl _) ⟨Nat.le_refl _, Nat.le_refl _⟩ (fun v h' hq => ?_)
  obtain ⟨rfl, he⟩ := hq
  rw [he]
  clear he
  refine kx_if_eq (pc := 8) (tgt := 22) (kx_dd d_Tc_purse 4 rfl) rfl (fun c8 => ?_) (fun c8 => ?_)
  · refine kx_bipush (pc := 22) (v := -2) (kx_dd d_Tc_purse 10 rfl) rfl ?_
    refine kx_iret (pc := 24) rfl (kx_dd d_Tc_purse 11 rfl) (Nat.le_refl _) (Nat.le_refl _) ?_
    rw [e14] at c8
    exact ⟨by rw [if_neg (bP_0.mp c8)], rfl⟩
  · refine kx_aload_n (pc := 11) (kx_dd d_Tc_purse 5 rfl) rfl rfl ?_
    refine kx_getR (pc := 12) (b := 14) fl_Tc_34 (hs.k 0 rfl) rfl (hs.r 3 rfl) (kx_dd d_Tc_purse 6 rfl) ?_
    refine kx_iload_n (pc := 15) (kx_dd d_Tc_purse 7 rfl) rfl rfl ?_
    refine kx_invV (pc := 16) (a := 14) (as := [_]) (kx_dd d_Tc_purse 8 rfl) ⟨lk_Tc_337, wi_Pe_purseOf, we_Pe_purseOf⟩ w_Pe_purseOf (hs.k 14 rfl) rfl rfl rfl rfl (Nat.le_of_ble_eq_true rfl) (x_Pe_purseOf (d := d) hs s ho hp a) (Nat.le_refl _) ⟨Nat.le_refl _, Nat.le_refl _⟩ (fun v h' hq => ?_)
    obtain ⟨rfl, he⟩ := hq
    rw [he]
    clear he
    refine kx_goto (pc := 19) (tgt := 24) (kx_dd d_Tc_purse 9 rfl) rfl ?_
    refine kx_iret (pc := 24) rfl (kx_dd d_Tc_purse 11 rfl) (Nat.le_refl _) (Nat.le_refl _) ?_
    have c8 := (bP_ti _).mp c8
    rw [e14] at c8 ⊢
    exact ⟨by rw [if_pos c8, if_pos c8], rfl⟩
theorem y_purse {l : Launch} {g : kx_G} {d : Nat} {h : kx_Mem} (hm : SM h) (s : PS) (ho : PSok s) (hp : PSm s h) (a : Int32) : kx_Sp l g m_Mo_purse [.ref 84, .int a] h (d + 2) 0 0 (fun v h' => v = some (.int (if 0 ≤ a ∧ a < nI s.1 then h.1 116 a.toNatClampNeg else -2)) ∧ h' = h) := by
  have o1 := ho.1
  refine kx_enter_e (lv := [_, _]) (by decide +kernel) (Nat.le_of_ble_eq_true rfl) rfl ?_
  refine kx_aload_n (pc := 0) (kx_dd d_Mo_purse 0 rfl) rfl rfl ?_
  refine kx_iload_n (pc := 1) (kx_dd d_Mo_purse 1 rfl) rfl rfl ?_
  refine kx_invV (pc := 2) (a := 84) (as := [_]) (kx_dd d_Mo_purse 2 rfl) ⟨lk_Mo_435, wi_Mo_isPerson, we_Mo_isPerson⟩ w_Mo_isPerson (hm.k 0 rfl) rfl rfl rfl rfl (Nat.le_of_ble_eq_true rfl) (y_isPerson (d := d) hm s ho hp a) (Nat.le_refl _) ⟨Nat.le_refl _, Nat.le_refl _⟩ (fun v h' hq => ?_)
  obtain ⟨rfl, he⟩ := hq
  rw [he]
  clear he
  refine kx_if_eq (pc := 5) (tgt := 17) (kx_dd d_Mo_purse 3 rfl) rfl (fun c5 => ?_) (fun c5 => ?_)
  · refine kx_bipush (pc := 17) (v := -2) (kx_dd d_Mo_purse 9 rfl) rfl ?_
    refine kx_iret (pc := 19) rfl (kx_dd d_Mo_purse 10 rfl) (Nat.le_refl _) (Nat.le_refl _) ?_
    exact ⟨by rw [if_neg (bP_0.mp c5)], rfl⟩
  · have c5 := (bP_ti _).mp c5
    obtain ⟨a9, ha9, rfl⟩ := valP (n := s.1) (by omega) c5
    refine kx_aload_n (pc := 8) (kx_dd d_Mo_purse 4 rfl) rfl rfl ?_
    refine kx_getR (pc := 9) (b := 116) fl_Mo_306 (hm.k 0 rfl) rfl (hm.r 31 rfl) (kx_dd d_Mo_purse 5 rfl) ?_
    refine kx_iload_n (pc := 12) (kx_dd d_Mo_purse 6 rfl) rfl rfl ?_
    refine kx_ialdn (pc := 13) a9 (hm.t 32 rfl) rfl (by omega) (by decide) (kx_dd d_Mo_purse 7 rfl) ?_
    refine kx_goto (pc := 14) (tgt := 19) (kx_dd d_Mo_purse 8 rfl) rfl ?_
    refine kx_iret (pc := 19) rfl (kx_dd d_Mo_purse 10 rfl) (Nat.le_refl _) (Nat.le_refl _) ?_
    exact ⟨by rw [if_pos c5, nI_clamp (by omega)], rfl⟩
theorem x_Tc_lots {l : Launch} {g : kx_G} {d : Nat} {h : kx_Mem} (hs : SC h) (s : PS) (ho : PSok s) (hp : PSc s h) (U : Nat → Prop) (hU : ∀ q, q < 60 → h.1 15 q = bP (U q)) (a b td : Nat) (haa : a ≤ 3) (hbb : b ≤ 3) (htd : td < 2 ^ 31) (hc : h.1 0 9 = nI td) (ha : h.1 0 11 = nI a) (hb : h.1 0 12 = nI b) : kx_Sp l g m_Tc_lots [.ref 0] h (d + 4) 0 0 (fun v h' => v = some (.int (nI (lotK s U a b td s.1))) ∧ h' = h) := by
  refine kx_enter_e (lv := [_]) (by decide +kernel) (Nat.le_of_ble_eq_true rfl) rfl ?_
  refine kx_aload_n (pc := 0) (kx_dd d_Tc_lots 0 rfl) rfl rfl ?_
  refine kx_getR (pc := 1) (b := 14) fl_Tc_34 (hs.k 0 rfl) rfl (hs.r 3 rfl) (kx_dd d_Tc_lots 1 rfl) ?_
  refine kx_aload_n (pc := 4) (kx_dd d_Tc_lots 2 rfl) rfl rfl ?_
  refine kx_getI (pc := 5) fl_Tc_129 (hs.k 0 rfl) rfl (kx_dd d_Tc_lots 3 rfl) ?_
  refine kx_aload_n (pc := 8) (kx_dd d_Tc_lots 4 rfl) rfl rfl ?_
  refine kx_getI (pc := 9) fl_Tc_78 (hs.k 0 rfl) rfl (kx_dd d_Tc_lots 5 rfl) ?_
  refine kx_aload_n (pc := 12) (kx_dd d_Tc_lots 6 rfl) rfl rfl ?_
  refine kx_getI (pc := 13) fl_Tc_94 (hs.k 0 rfl) rfl (kx_dd d_Tc_lots 7 rfl) ?_
  rw [hc, ha, hb]
  refine kx_invV (pc := 16) (a := 14) (as := [_, _, _]) (kx_dd d_Tc_lots 8 rfl) ⟨lk_Tc_267, wi_Pe_countForLot, we_Pe_countForLot⟩ w_Pe_countForLot (hs.k 14 rfl) rfl rfl rfl rfl (Nat.le_of_ble_eq_true rfl) (x_Pe_countForLot (d := d) hs s ho hp U hU a b td haa hbb htd) (Nat.le_refl _) ⟨Nat.le_refl _, Nat.le_refl _⟩ (fun v h' hq => ?_)
  obtain ⟨rfl, he⟩ := hq
  rw [he]
  clear he
  refine kx_iret (pc := 19) rfl (kx_dd d_Tc_lots 9 rfl) (Nat.le_refl _) (Nat.le_refl _) ?_
  exact ⟨rfl, rfl⟩
theorem y_lots {l : Launch} {g : kx_G} {d : Nat} {h : kx_Mem} (hm : SM h) (s : PS) (ho : PSok s) (hp : PSm s h) (U : Nat → Prop) (hU : ∀ q, q < 60 → h.1 117 q = bP (U q)) (a b td : Nat) (haa : a ≤ 3) (hbb : b ≤ 3) (htd : td < 2 ^ 31) (hc : h.1 84 36 = nI td) (ha : h.1 84 37 = nI a) (hb : h.1 84 38 = nI b) : kx_Sp l g m_Mo_lots [.ref 84] h (d + 4) 0 0 (fun v h' => v = some (.int (nI (lotK s U a b td s.1))) ∧ h' = h) := by
  refine kx_enter_e (lv := [_]) (by decide +kernel) (Nat.le_of_ble_eq_true rfl) rfl ?_
  refine kx_aload_n (pc := 0) (kx_dd d_Mo_lots 0 rfl) rfl rfl ?_
  refine kx_invV (pc := 1) (a := 84) (as := []) (kx_dd d_Mo_lots 1 rfl) ⟨lk_Mo_582, wi_Mo_lotMany, we_Mo_lotMany⟩ w_Mo_lotMany (hm.k 0 rfl) rfl rfl rfl rfl (Nat.le_of_ble_eq_true rfl) (y_lotMany (d := d) hm s ho hp U hU a b td haa hbb htd hc ha hb) (Nat.le_refl _) ⟨Nat.le_refl _, Nat.le_refl _⟩ (fun v h' hq => ?_)
  obtain ⟨rfl, he⟩ := hq
  rw [he]
  clear he
  refine kx_iret (pc := 4) rfl (kx_dd d_Mo_lots 2 rfl) (Nat.le_refl _) (Nat.le_refl _) ?_
  exact ⟨rfl, rfl⟩
def umS (U : Nat → Prop) (k : Nat) (is : Prop) (q : Nat) : Prop := (q = k ∧ is) ∨ (q ≠ k ∧ U q)
def UmQ (s : PS) (U : Nat → Prop) (a : Int32) (is : Prop) (o : Nat) (h : kx_Mem) (v : Option Value) (h' : kx_Mem) : Prop := (¬ (0 ≤ a ∧ a < nI s.1) ∧ v = some (.int (-2)) ∧ h' = h) ∨ ((0 ≤ a ∧ a < nI s.1) ∧ v = some (.int (bP (¬ (U a.toNatClampNeg ↔ is)))) ∧ (∀ q, q < 60 → h'.1 o q = bP (umS U a.toNatClampNeg is q)) ∧ kx_Fc (fun x _ => x = o) h h')
theorem bP_eq {p q : Prop} : bP p = bP q ↔ (p ↔ q) := by
  by_cases h1 : p <;> by_cases h2 : q <;> simp [bP, h1, h2]
theorem umS_set {U : Nat → Prop} {k o : Nat} {is : Prop} {h : kx_Mem} (hU : ∀ q, q < 60 → h.1 o q = bP (U q)) : ∀ q, q < 60 → (kx_setI h o k (bP is)).1 o q = bP (umS U k is q) := by
  intro q hq
  unfold umS
  by_cases e : q = k
  · rw [e, setI_at]
    exact bP_c ⟨fun z => Or.inl ⟨rfl, z⟩, fun z => by rcases z with z | z; exact z.2; exact absurd rfl z.1⟩
  · rw [setI_ne (Or.inr e), hU q hq]
    exact bP_c ⟨fun z => Or.inr ⟨e, z⟩, fun z => by rcases z with z | z; exact absurd z.1 e; exact z.2⟩
theorem umS_same {U : Nat → Prop} {k : Nat} {is : Prop} (h : U k ↔ is) (q : Nat) : umS U k is q ↔ U q := by
  unfold umS
  by_cases e : q = k
  · subst e; exact ⟨fun z => by rcases z with z | z; exact h.mpr z.2; exact z.2, fun z => Or.inl ⟨rfl, h.mp z⟩⟩
  · exact ⟨fun z => by rcases z with z | z; exact absurd z.1 e; exact z.2, fun z => Or.inr ⟨e, z⟩⟩
theorem x_Tc_umpire {l : Launch} {g : kx_G} {d : Nat} {h : kx_Mem} (hs : SC h) (s : PS) (ho : PSok s) (hp : PSc s h) (U : Nat → Prop) (hU : ∀ q, q < 60 → h.1 15 q = bP (U q)) (a : Int32) (is : Prop) : kx_Sp l g m_Tc_umpire [.ref 0, .int a, .int (bP is)] h (d + 2) 0 0 (fun v h' => UmQ s U a is 15 h v h') := by
  have e14 : h.1 14 0 = nI s.1 := hp.1
  have o1 := ho.1
  refine kx_enter_e (lv := [_, _, _]) (by decide +kernel) (Nat.le_of_ble_eq_true rfl) rfl ?_
  refine kx_aload_n (pc := 0) (kx_dd d_Tc_umpire 0 rfl) rfl rfl ?_
  refine kx_getR (pc := 1) (b := 14) fl_Tc_34 (hs.k 0 rfl) rfl (hs.r 3 rfl) (kx_dd d_Tc_umpire 1 rfl) ?_
  refine kx_iload_n (pc := 4) (kx_dd d_Tc_umpire 2 rfl) rfl rfl ?_
  refine kx_invV (pc := 5) (a := 14) (as := [_]) (kx_dd d_Tc_umpire 3 rfl) ⟨lk_Tc_101, wi_Pe_has, we_Pe_has⟩ w_Pe_has (hs.k 14 rfl) rfl rfl rfl rfl (Nat.le_of_ble_eq_true rfl) (x_Pe_has (d := d + 1) hs a) (Nat.le_refl _) ⟨Nat.le_refl _, Nat.le_refl _⟩ (fun v h' hq => ?_)
  obtain ⟨rfl, he⟩ := hq
  rw [he]
  clear he
  refine kx_if_ne (pc := 8) (tgt := 14) (kx_dd d_Tc_umpire 4 rfl) rfl (fun c8 => ?_) (fun c8 => ?_)
  · have c8b := (bP_ti _).mp c8
    have c8c := c8b
    rw [e14] at c8c
    obtain ⟨a9, ha9, rfl⟩ := valP (n := s.1) (by omega) c8c
    refine kx_aload_n (pc := 14) (kx_dd d_Tc_umpire 7 rfl) rfl rfl ?_
    refine kx_getR (pc := 15) (b := 14) fl_Tc_34 (hs.k 0 rfl) rfl (hs.r 3 rfl) (kx_dd d_Tc_umpire 8 rfl) ?_
    refine kx_iload_n (pc := 18) (kx_dd d_Tc_umpire 9 rfl) rfl rfl ?_
    refine kx_iload_n (pc := 19) (kx_dd d_Tc_umpire 10 rfl) rfl rfl ?_
    refine kx_invV (pc := 20) (a := 14) (as := [_, _]) (kx_dd d_Tc_umpire 11 rfl) ⟨lk_Tc_263, wi_Pe_enlist, we_Pe_enlist⟩ w_Pe_enlist (hs.k 14 rfl) rfl rfl rfl rfl (Nat.le_of_ble_eq_true rfl) (x_Pe_enlist (d := d) hs s ho hp (nI a9) is) (Nat.le_refl _) ⟨Nat.le_refl _, Nat.le_refl _⟩ (fun v h' hq => ?_)
    revert h'
    intro h1 hq
    obtain ⟨rfl, rfl⟩ := hq
    refine kx_if_eq (pc := 23) (tgt := 30) (kx_dd d_Tc_umpire 12 rfl) rfl (fun c23 => ?_) (fun c23 => ?_)
    · refine kx_iconst (pc := 30) (v := 0) (kx_dd d_Tc_umpire 15 rfl) rfl ?_
      refine kx_iret (pc := 31) rfl (kx_dd d_Tc_umpire 16 rfl) (Nat.le_refl _) (Nat.le_refl _) ?_
      have c23 := bP_0.mp c23
      rw [if_neg c23]
      rw [nI_clamp (by omega), hU a9 (by omega), bP_eq] at c23
      have hsa : U a9 ↔ is := Classical.not_not.mp (fun z => c23 ⟨c8b, z⟩)
      refine Or.inr ⟨by rw [← e14]; exact c8b, by rw [nI_clamp (by omega), bP_f (fun z => z hsa)], fun q hq => ?_, kx_Fc.rf⟩
      rw [nI_clamp (by omega), hU q hq]
      exact bP_c (umS_same hsa q).symm
    · refine kx_iconst (pc := 26) (v := 1) (kx_dd d_Tc_umpire 13 rfl) rfl ?_
      refine kx_goto (pc := 27) (tgt := 31) (kx_dd d_Tc_umpire 14 rfl) rfl ?_
      refine kx_iret (pc := 31) rfl (kx_dd d_Tc_umpire 16 rfl) (Nat.le_refl _) (Nat.le_refl _) ?_
      have c23 := (bP_ti _).mp c23
      rw [if_pos c23]
      rw [nI_clamp (by omega), hU a9 (by omega), bP_eq] at c23
      rw [nI_clamp (by omega)]
      refine Or.inr ⟨by rw [← e14]; exact c8b, by rw [nI_clamp (by omega), bP_t c23.2], ?_, kx_Fc.set rfl⟩
      rw [nI_clamp (by omega)]
      exact umS_set hU
  · refine kx_bipush (pc := 11) (v := -2) (kx_dd d_Tc_umpire 5 rfl) rfl ?_
    refine kx_iret (pc := 13) rfl (kx_dd d_Tc_umpire 6 rfl) (Nat.le_refl _) (Nat.le_refl _) ?_
    rw [e14] at c8
    exact Or.inl ⟨bP_0.mp c8, rfl, rfl⟩
theorem y_umpire {l : Launch} {g : kx_G} {d : Nat} {h : kx_Mem} (hm : SM h) (s : PS) (ho : PSok s) (hp : PSm s h) (U : Nat → Prop) (hU : ∀ q, q < 60 → h.1 117 q = bP (U q)) (a : Int32) (is : Prop) : kx_Sp l g m_Mo_umpire [.ref 84, .int a, .int (bP is)] h (d + 2) 0 0 (fun v h' => UmQ s U a is 117 h v h') := by
  have o1 := ho.1
  refine kx_enter_e (lv := [_, _, _, _]) (by decide +kernel) (Nat.le_of_ble_eq_true rfl) rfl ?_
  refine kx_aload_n (pc := 0) (kx_dd d_Mo_umpire 0 rfl) rfl rfl ?_
  refine kx_iload_n (pc := 1) (kx_dd d_Mo_umpire 1 rfl) rfl rfl ?_
  refine kx_invV (pc := 2) (a := 84) (as := [_]) (kx_dd d_Mo_umpire 2 rfl) ⟨lk_Mo_435, wi_Mo_isPerson, we_Mo_isPerson⟩ w_Mo_isPerson (hm.k 0 rfl) rfl rfl rfl rfl (Nat.le_of_ble_eq_true rfl) (y_isPerson (d := d) hm s ho hp a) (Nat.le_refl _) ⟨Nat.le_refl _, Nat.le_refl _⟩ (fun v h' hq => ?_)
  obtain ⟨rfl, he⟩ := hq
  rw [he]
  clear he
  refine kx_if_ne (pc := 5) (tgt := 11) (kx_dd d_Mo_umpire 3 rfl) rfl (fun c5 => ?_) (fun c5 => ?_)
  · have c5 := (bP_ti _).mp c5
    obtain ⟨a9, ha9, rfl⟩ := valP (n := s.1) (by omega) c5
    refine kx_aload_n (pc := 11) (kx_dd d_Mo_umpire 6 rfl) rfl rfl ?_
    refine kx_getR (pc := 12) (b := 117) fl_Mo_309 (hm.k 0 rfl) rfl (hm.r 32 rfl) (kx_dd d_Mo_umpire 7 rfl) ?_
    refine kx_iload_n (pc := 15) (kx_dd d_Mo_umpire 8 rfl) rfl rfl ?_
    refine kx_zaldn (pc := 16) a9 (hm.t 33 rfl) rfl (by omega) (by decide) (kx_dd d_Mo_umpire 9 rfl) ?_
    refine kx_istore_ne (pc := 17) (lv' := [_, _, _, _]) (kx_dd d_Mo_umpire 10 rfl) rfl (Nat.le_of_ble_eq_true rfl) rfl ?_
    refine kx_aload_n (pc := 18) (kx_dd d_Mo_umpire 11 rfl) rfl rfl ?_
    refine kx_getR (pc := 19) (b := 117) fl_Mo_309 (hm.k 0 rfl) rfl (hm.r 32 rfl) (kx_dd d_Mo_umpire 12 rfl) ?_
    refine kx_iload_n (pc := 22) (kx_dd d_Mo_umpire 13 rfl) rfl rfl ?_
    refine kx_iload_n (pc := 23) (kx_dd d_Mo_umpire 14 rfl) rfl rfl ?_
    refine kx_zastn (pc := 24) a9 (hm.t 33 rfl) (by decide) rfl (by omega) (by decide) (kx_dd d_Mo_umpire 15 rfl) ?_
    rw [show vp_nar .boolean (bP is) = bP is by unfold bP; split <;> rfl]
    refine kx_iload_n (pc := 25) (kx_dd d_Mo_umpire 16 rfl) rfl rfl ?_
    refine kx_iload_n (pc := 26) (kx_dd d_Mo_umpire 17 rfl) rfl rfl ?_
    refine kx_icmp_ne (pc := 27) (tgt := 34) (kx_dd d_Mo_umpire 18 rfl) rfl (fun c27 => ?_) (fun c27 => ?_)
    · refine kx_iconst (pc := 34) (v := 1) (kx_dd d_Mo_umpire 21 rfl) rfl ?_
      refine kx_iret (pc := 35) rfl (kx_dd d_Mo_umpire 22 rfl) (Nat.le_refl _) (Nat.le_refl _) ?_
      rw [hU a9 (by omega), bP_eq] at c27
      refine Or.inr ⟨c5, by rw [nI_clamp (by omega), bP_t c27], by rw [nI_clamp (by omega)]; exact umS_set hU, kx_Fc.set rfl⟩
    · refine kx_iconst (pc := 30) (v := 0) (kx_dd d_Mo_umpire 19 rfl) rfl ?_
      refine kx_goto (pc := 31) (tgt := 35) (kx_dd d_Mo_umpire 20 rfl) rfl ?_
      refine kx_iret (pc := 35) rfl (kx_dd d_Mo_umpire 22 rfl) (Nat.le_refl _) (Nat.le_refl _) ?_
      rw [hU a9 (by omega), bP_eq] at c27
      refine Or.inr ⟨c5, by rw [nI_clamp (by omega), bP_f (fun z => z c27)], by rw [nI_clamp (by omega)]; exact umS_set hU, kx_Fc.set rfl⟩
  · refine kx_bipush (pc := 8) (v := -2) (kx_dd d_Mo_umpire 4 rfl) rfl ?_
    refine kx_iret (pc := 10) rfl (kx_dd d_Mo_umpire 5 rfl) (Nat.le_refl _) (Nat.le_refl _) ?_
    exact Or.inl ⟨bP_0.mp c5, rfl, rfl⟩
