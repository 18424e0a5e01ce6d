/-! the reference: heirOn, listHeirs, give, lots -/
theorem valP {n : Nat} (hn : n < 2 ^ 31) {a : Int32} (h : 0 ≤ a ∧ a < nI n) : ∃ k, k < n ∧ a = nI k := by
  obtain ⟨k, hk, rfl⟩ := nI_of (Int32.not_lt.mpr h.1)
  exact ⟨k, (nI_ltI hk hn).mp h.2, rfl⟩
theorem valD {a : Int32} (h : 0 ≤ a ∧ a ≤ 1999) : ∃ k, k ≤ 1999 ∧ a = nI k := by
  obtain ⟨k, hk, rfl⟩ := nI_of (Int32.not_lt.mpr h.1)
  exact ⟨k, (nI_leI (b := 1999) hk (by decide)).mp h.2, rfl⟩
theorem y_heirOn {l : Launch} {g : kx_G} {d : Nat} {h : kx_Mem} (hm : SM h) (s : PS) (ho : PSok s) (hp : PSm s h) (a b i wh : Int32) : kx_Sp l g m_Mo_heirOn [.ref 84, .int a, .int b, .int i, .int wh] h (d + 2) 0 0 (fun v h' => v = some (.int (if (0 ≤ a ∧ a < nI s.1) ∧ (0 ≤ b ∧ b ≤ 1999) then heAns (heF s a.toNatClampNeg b.toNatClampNeg) i wh else -1)) ∧ h' = h) := by
  have o2 := ho.1
  have o3 := ho.2.1
  refine kx_enter_e (lv := [_, _, _, _, _, _]) (by decide +kernel) (Nat.le_of_ble_eq_true rfl) rfl ?_
  refine kx_aload_n (pc := 0) (kx_dd d_Mo_heirOn 0 rfl) rfl rfl ?_
  refine kx_iload_n (pc := 1) (kx_dd d_Mo_heirOn 1 rfl) rfl rfl ?_
  refine kx_invV (pc := 2) (a := 84) (as := [_]) (kx_dd d_Mo_heirOn 2 rfl) ⟨lk_Mo_435, wi_Mo_isPerson, we_Mo_isPerson⟩ w_Mo_isPerson (hm.k 0 rfl) rfl rfl rfl rfl (by decide) (y_isPerson (d := d) hm s ho hp a) (Nat.le_refl _) ⟨Nat.le_refl _, Nat.le_refl _⟩ (fun v h' hq => ?_)
  obtain ⟨rfl, he⟩ := hq
  rw [he]
  clear he
  refine kx_if_eq (pc := 5) (tgt := 30) (kx_dd d_Mo_heirOn 3 rfl) rfl (fun c5 => ?_) (fun c5 => ?_)
  · refine kx_iconst (pc := 30) (v := -1) (kx_dd d_Mo_heirOn 15 rfl) rfl ?_
    refine kx_iret (pc := 31) rfl (kx_dd d_Mo_heirOn 16 rfl) (Nat.le_refl _) (Nat.le_refl _) ?_
    rw [bP_0] at c5
    exact ⟨by rw [if_neg (fun z => c5 z.1)], rfl⟩
  · refine kx_iload_n (pc := 8) (kx_dd d_Mo_heirOn 4 rfl) rfl rfl ?_
    refine kx_invS (pc := 9) (as := [_]) (kx_dd d_Mo_heirOn 5 rfl) ⟨lk_Mo_441, wt_Mo_isDay⟩ w_Mo_isDay rfl rfl (by decide) (y_isDay (d := d) b) (Nat.le_refl _) ⟨Nat.le_refl _, Nat.le_refl _⟩ (fun v h' hq => ?_)
    obtain ⟨rfl, he⟩ := hq
    rw [he]
    clear he
    refine kx_if_eq (pc := 12) (tgt := 30) (kx_dd d_Mo_heirOn 6 rfl) rfl (fun c12 => ?_) (fun c12 => ?_)
    · refine kx_iconst (pc := 30) (v := -1) (kx_dd d_Mo_heirOn 15 rfl) rfl ?_
      refine kx_iret (pc := 31) rfl (kx_dd d_Mo_heirOn 16 rfl) (Nat.le_refl _) (Nat.le_refl _) ?_
      rw [bP_0] at c12
      exact ⟨by rw [if_neg (fun z => c12 z.2)], rfl⟩
    · refine kx_iload_n (pc := 15) (kx_dd d_Mo_heirOn 7 rfl) rfl rfl ?_
      refine kx_if_lt (pc := 16) (tgt := 30) (kx_dd d_Mo_heirOn 8 rfl) rfl (fun c16 => ?_) (fun c16 => ?_)
      · refine kx_iconst (pc := 30) (v := -1) (kx_dd d_Mo_heirOn 15 rfl) rfl ?_
        refine kx_iret (pc := 31) rfl (kx_dd d_Mo_heirOn 16 rfl) (Nat.le_refl _) (Nat.le_refl _) ?_
        rw [bP_0, Classical.not_not] at c5 c12
        exact ⟨by rw [if_pos ⟨c5, c12⟩]; unfold heAns; rw [if_pos c16], rfl⟩
      · refine kx_iload (pc := 19) (kx_dd d_Mo_heirOn 9 rfl) rfl ?_
        refine kx_i2l (pc := 21) (kx_dd d_Mo_heirOn 10 rfl) ?_
        refine kx_lconst (pc := 22) (v := 0) (kx_dd d_Mo_heirOn 11 rfl) rfl ?_
        refine kx_lconst (pc := 23) (v := 1) (kx_dd d_Mo_heirOn 12 rfl) rfl ?_
        refine kx_invS (pc := 24) (as := [_, _, _]) (kx_dd d_Mo_heirOn 13 rfl) ⟨lk_Mo_5, wt_Mo_in⟩ w_Mo_in rfl rfl (by decide) (y_in (d := d + 1) _ _ _) (Nat.le_refl _) ⟨Nat.le_refl _, Nat.le_refl _⟩ (fun v h' hq => ?_)
        obtain ⟨rfl, he⟩ := hq
        rw [he]
        clear he
        refine kx_if_ne (pc := 27) (tgt := 32) (kx_dd d_Mo_heirOn 14 rfl) rfl (fun c27 => ?_) (fun c27 => ?_)
        · rw [bP_0, Classical.not_not] at c5 c12
          obtain ⟨pk, pk1, rfl⟩ := valP (by omega) c5
          obtain ⟨kn, kn1, rfl⟩ := valD c12
          obtain ⟨ik, hi, rfl⟩ := nI_of c16
          refine kx_aload_n (pc := 32) (kx_dd d_Mo_heirOn 17 rfl) rfl rfl ?_
          refine kx_iload_n (pc := 33) (kx_dd d_Mo_heirOn 18 rfl) rfl rfl ?_
          refine kx_iload_n (pc := 34) (kx_dd d_Mo_heirOn 19 rfl) rfl rfl ?_
          refine kx_iload_n (pc := 35) (kx_dd d_Mo_heirOn 20 rfl) rfl rfl ?_
          refine kx_invV (pc := 36) (a := 84) (as := [_, _, _]) (kx_dd d_Mo_heirOn 21 rfl) ⟨lk_Mo_462, wi_Mo_heirAt, we_Mo_heirAt⟩ w_Mo_heirAt (hm.k 0 rfl) rfl rfl rfl rfl (by decide) (y_heirAt (d := d) hm s ho hp pk kn ik (by omega) (by omega) hi) (Nat.le_refl _) ⟨Nat.le_refl _, Nat.le_refl _⟩ (fun v h' hq => ?_)
          obtain ⟨r, rfl, hr, he⟩ := hq
          rw [he]
          clear he
          refine kx_istore_e (pc := 39) (lv' := [_, _, _, _, _, _]) (kx_dd d_Mo_heirOn 22 rfl) (Nat.le_of_ble_eq_true rfl) rfl ?_
          refine kx_iload (pc := 41) (kx_dd d_Mo_heirOn 23 rfl) rfl ?_
          refine kx_iconst (pc := 43) (v := -1) (kx_dd d_Mo_heirOn 24 rfl) rfl ?_
          refine kx_icmp_ne (pc := 44) (tgt := 49) (kx_dd d_Mo_heirOn 25 rfl) rfl (fun c44 => ?_) (fun c44 => ?_)
          · obtain ⟨k, k1, k2, k3, rfl⟩ : ∃ k, k < s.2.1 ∧ firP s pk kn k ∧ (heK s pk kn k).length = ik ∧ r = nI k := by
              rcases hr with z | z
              · exact z
              · exact absurd z.2 c44
            have hk4 := ((hp.2.2 k k1).2.2.2.1 k2.1.1).2
            have hfa := firP_at k1 k2
            rw [k3] at hfa
            obtain ⟨x, hx, hx1⟩ : ∃ x, (heF s pk kn)[ik]? = some x ∧ x.1 = s.2.2.2.2.2.1 k := by
              rw [List.getElem?_map] at hfa
              cases hz : (heF s pk kn)[ik]? with
              | none => rw [hz] at hfa; cases hfa
              | some x => rw [hz] at hfa; exact ⟨x, rfl, Option.some.inj hfa⟩
            have ok := ho.2.2 k k1
            refine kx_iload (pc := 49) (kx_dd d_Mo_heirOn 28 rfl) rfl ?_
            refine kx_if_ne (pc := 51) (tgt := 64) (kx_dd d_Mo_heirOn 29 rfl) rfl (fun c51 => ?_) (fun c51 => ?_)
            · refine kx_aload_n (pc := 64) (kx_dd d_Mo_heirOn 35 rfl) rfl rfl ?_
              refine kx_iload_n (pc := 65) (kx_dd d_Mo_heirOn 36 rfl) rfl rfl ?_
              refine kx_iload_n (pc := 66) (kx_dd d_Mo_heirOn 37 rfl) rfl rfl ?_
              refine kx_aload_n (pc := 67) (kx_dd d_Mo_heirOn 38 rfl) rfl rfl ?_
              refine kx_getR (pc := 68) (b := 110) fl_Mo_288 (hm.k 0 rfl) rfl (hm.r 25 rfl) (kx_dd d_Mo_heirOn 39 rfl) ?_
              refine kx_iload (pc := 71) (kx_dd d_Mo_heirOn 40 rfl) rfl ?_
              refine kx_ialdn (pc := 73) k (hm.t 26 rfl) rfl (by omega) (by decide) (kx_dd d_Mo_heirOn 41 rfl) ?_
              rw [hk4]
              refine kx_invV (pc := 74) (a := 84) (as := [_, _, _]) (kx_dd d_Mo_heirOn 42 rfl) ⟨lk_Mo_465, wi_Mo_partsOf, we_Mo_partsOf⟩ w_Mo_partsOf (hm.k 0 rfl) rfl rfl rfl rfl (by decide) (y_partsOf (d := d) hm s ho hp pk kn (s.2.2.2.2.2.1 k) (by omega) (by omega) (by omega)) (Nat.le_refl _) ⟨Nat.le_refl _, Nat.le_refl _⟩ (fun v h' hq => ?_)
              obtain ⟨rfl, he⟩ := hq
              rw [he]
              clear he
              refine kx_iret (pc := 77) rfl (kx_dd d_Mo_heirOn 43 rfl) (Nat.le_refl _) (Nat.le_refl _) ?_
              refine ⟨?_, rfl⟩
              rw [if_pos ⟨c5, c12⟩, nI_clamp (by omega), nI_clamp (by omega)]
              unfold heAns
              rw [if_neg c16, nI_clamp hi, hx]
              show _ = some (Value.int (if wh = 0 then nI x.1 else if wh = 1 then nI x.2 else -1))
              have w1 : wh = 1 := by
                rw [bP_0, Classical.not_not, show (0 : Int64) = (0 : Int32).toInt64 from rfl, show (1 : Int64) = (1 : Int32).toInt64 from rfl, w_le, w_le] at c27
                rcases nI_dec wh with z | ⟨wk, wk1, rfl⟩
                · exact absurd c27.1 (Int32.not_le.mpr z)
                · have := (nI_leI (b := 1) wk1 (by decide)).mp c27.2
                  have w0 : wk ≠ 0 := fun e => c51 (by rw [e]; rfl)
                  rw [show wk = 1 by omega]
                  rfl
              rw [if_neg c51, if_pos w1, ← hx1, parK_he ho s.2.1 (Nat.le_refl _) x (List.mem_of_getElem? hx)]
            · refine kx_aload_n (pc := 54) (kx_dd d_Mo_heirOn 30 rfl) rfl rfl ?_
              refine kx_getR (pc := 55) (b := 110) fl_Mo_288 (hm.k 0 rfl) rfl (hm.r 25 rfl) (kx_dd d_Mo_heirOn 31 rfl) ?_
              refine kx_iload (pc := 58) (kx_dd d_Mo_heirOn 32 rfl) rfl ?_
              refine kx_ialdn (pc := 60) k (hm.t 26 rfl) rfl (by omega) (by decide) (kx_dd d_Mo_heirOn 33 rfl) ?_
              refine kx_goto (pc := 61) (tgt := 77) (kx_dd d_Mo_heirOn 34 rfl) rfl ?_
              refine kx_iret (pc := 77) rfl (kx_dd d_Mo_heirOn 43 rfl) (Nat.le_refl _) (Nat.le_refl _) ?_
              refine ⟨?_, rfl⟩
              rw [if_pos ⟨c5, c12⟩, nI_clamp (by omega), nI_clamp (by omega)]
              unfold heAns
              rw [if_neg c16, nI_clamp hi, hx]
              show _ = some (Value.int (if wh = 0 then nI x.1 else if wh = 1 then nI x.2 else -1))
              rw [if_pos c51, hx1, hk4]
          · refine kx_iconst (pc := 47) (v := -1) (kx_dd d_Mo_heirOn 26 rfl) rfl ?_
            refine kx_iret (pc := 48) rfl (kx_dd d_Mo_heirOn 27 rfl) (Nat.le_refl _) (Nat.le_refl _) ?_
            refine ⟨?_, rfl⟩
            rw [if_pos ⟨c5, c12⟩, nI_clamp (by omega), nI_clamp (by omega)]
            unfold heAns
            rcases hr with ⟨k, k1, k2, k3, rfl⟩ | ⟨hr1, hr2⟩
            · exact absurd c44 (fun e => by have := congrArg Int32.toInt e; rw [nI_toInt (by omega)] at this; exact absurd this (by rw [show (-1 : Int32).toInt = -1 from rfl]; omega))
            · rw [if_neg c16, nI_clamp hi, List.getElem?_eq_none hr1]
        · refine kx_iconst (pc := 30) (v := -1) (kx_dd d_Mo_heirOn 15 rfl) rfl ?_
          refine kx_iret (pc := 31) rfl (kx_dd d_Mo_heirOn 16 rfl) (Nat.le_refl _) (Nat.le_refl _) ?_
          rw [bP_0, Classical.not_not] at c5 c12
          rw [bP_0, show (0 : Int64) = (0 : Int32).toInt64 from rfl, show (1 : Int64) = (1 : Int32).toInt64 from rfl, w_le, w_le] at c27
          refine ⟨?_, rfl⟩
          rw [if_pos ⟨c5, c12⟩]
          unfold heAns
          rw [if_neg c16]
          have n0 : ¬ wh = 0 := fun e => c27 (by rw [e]; decide)
          have n1 : ¬ wh = 1 := fun e => c27 (by rw [e]; decide)
          cases (heF s a.toNatClampNeg b.toNatClampNeg)[i.toNatClampNeg]? with
          | none => rfl
          | some q => simp only [n0, n1, if_false]
def heRowM (L : List (Nat × Nat)) (b : Nat) (h : kx_Mem) : Prop := ∀ j q, L[j]? = some q → h.1 149 (b + j) = nI q.1 ∧ h.1 150 (b + j) = nI q.2
theorem heRowM.put {L : List (Nat × Nat)} {b j q n : Nat} {h : kx_Mem} (hr : heRowM L b h) (hn : ∀ i x, i < j → L[i]? = some x → x.1 ≠ q) (hj : (∃ x, L[j]? = some x ∧ x.1 = q) ∨ j = L.length) : heRowM (hePut L q n) b (kx_setI (kx_setI h 149 (b + j) (nI q)) 150 (b + j) (nI n)) ∧ ((∃ x, L[j]? = some x ∧ x.1 = q) → (hePut L q n).length = L.length) ∧ (j = L.length → (hePut L q n).length = L.length + 1) := by
  have e := hePut_eq L q n j hn
  refine ⟨fun i x hx => ?_, fun h1 => by rw [e.1 h1, List.length_set], fun h1 => by rw [e.2 h1]; simp⟩
  have key : (i = j ∧ x = (q, n)) ∨ (i ≠ j ∧ L[i]? = some x) := by
    rcases hj with hj | hj
    · rw [e.1 hj] at hx
      by_cases hij : i = j
      · subst hij
        rw [List.getElem?_set] at hx
        simp only [if_true] at hx
        split at hx
        · left; exact ⟨rfl, (Option.some.inj hx).symm⟩
        · cases hx
      · rw [List.getElem?_set_ne (Ne.symm hij)] at hx
        exact Or.inr ⟨hij, hx⟩
    · rw [e.2 hj] at hx
      by_cases hil : i < L.length
      · rw [List.getElem?_append_left hil] at hx
        exact Or.inr ⟨by omega, hx⟩
      · rw [List.getElem?_append_right (by omega)] at hx
        have : i - L.length < 1 := (List.getElem?_eq_some_iff.mp hx).1
        have hi : i = j := by omega
        rw [show i - L.length = 0 by omega] at hx
        left; exact ⟨hi, (Option.some.inj hx).symm⟩
  rcases key with ⟨rfl, rfl⟩ | ⟨hij, hx⟩
  · simp [kx_setI, kx_up]
  · have h1 := hr i x hx
    have h2 : ¬ b + i = b + j := by omega
    simp [kx_setI, kx_up, h2, h1, hij]
/-- what giving from a depth on may change -/
def FM (r : Nat) (h h' : kx_Mem) : Prop := h'.2 = h.2 ∧ (∀ a, a ≠ 116 → a ≠ 149 → a ≠ 150 → h'.1 a = h.1 a) ∧ ∀ j, j < 60 * r → h'.1 149 j = h.1 149 j ∧ h'.1 150 j = h.1 150 j
theorem FM.rf {r : Nat} {h : kx_Mem} : FM r h h := ⟨rfl, fun _ _ _ _ => rfl, fun _ _ => ⟨rfl, rfl⟩⟩
theorem FM.tr {r : Nat} {h h1 h2 : kx_Mem} (a : FM r h h1) (b : FM r h1 h2) : FM r h h2 := ⟨b.1.trans a.1, fun x h1 h2 h3 => (b.2.1 x h1 h2 h3).trans (a.2.1 x h1 h2 h3), fun j hj => ⟨(b.2.2 j hj).1.trans (a.2.2 j hj).1, (b.2.2 j hj).2.trans (a.2.2 j hj).2⟩⟩
theorem FM.mono {r r' : Nat} {h h1 : kx_Mem} (a : FM r' h h1) (hr : r ≤ r') : FM r h h1 := ⟨a.1, a.2.1, fun j hj => a.2.2 j (by omega)⟩
theorem FM.fp {r : Nat} {h h' : kx_Mem} (a : FM r h h') : kx_Fp (fun a => a = 116 ∨ a = 149 ∨ a = 150) h h' := ⟨a.1, fun x hx => a.2.1 x (fun e => hx (Or.inl e)) (fun e => hx (Or.inr (Or.inl e))) (fun e => hx (Or.inr (Or.inr e)))⟩
theorem FM.set2 {r j : Nat} {h : kx_Mem} {v w : Int32} (hj : 60 * r ≤ j) : FM r h (kx_setI (kx_setI h 149 j v) 150 j w) := by
  refine ⟨rfl, fun a h1 h2 h3 => ?_, fun i hi => ?_⟩
  · funext k
    simp [kx_setI, kx_up, h2, h3]
  · have : ¬ i = j := by omega
    simp [kx_setI, kx_up, this]
theorem FM.pu {r q : Nat} {h : kx_Mem} {v : Int32} : FM r h (kx_setI h 116 q v) := by
  refine ⟨rfl, fun a h1 h2 h3 => ?_, fun i hi => ?_⟩
  · funext k
    simp [kx_setI, kx_up, h1]
  · simp [kx_setI, kx_up]
theorem y_lh_in {l : Launch} {g : kx_G} {d : Nat} {h0 h : kx_Mem} (hm : SM h) (s : PS) (ho : PSok s) (hp : PSm s h) (p td r k : Nat) (hr : r < 3) (hkk : k < s.2.1) (hkt : s.2.2.1 k = 2) (L : List (Nat × Nat)) (hLL : L.length ≤ 60) (hL : heRowM L (60 * r) h) (hLo : ∀ x ∈ L, x.1 < s.1) (kont : ∀ j, j ≤ L.length → (∀ i x, i < j → L[i]? = some x → x.1 ≠ s.2.2.2.2.2.1 k) → ((∃ x, L[j]? = some x ∧ x.1 = s.2.2.2.2.2.1 k) ∨ j = L.length) → kx_X (l, g, m_Mo_listHeirs, d + 1, 0, 0, (fun v h' => v = some (.int (nI (heF s p td).length)) ∧ heRowM (heF s p td) (60 * r) h' ∧ FM r h0 h' ∧ h'.1 116 = h0.1 116)) 0 0 73 [some (.ref 84), some (.int (nI p)), some (.int (nI r)), some (.int (nI (60 * r))), some (.int (nI L.length)), some (.int (nI k)), some (.int (nI (60 * r + j)))] [] h) : ∀ n j, j + n = L.length → (∀ i x, i < j → L[i]? = some x → x.1 ≠ s.2.2.2.2.2.1 k) → kx_X (l, g, m_Mo_listHeirs, d + 1, 0, 0, (fun v h' => v = some (.int (nI (heF s p td).length)) ∧ heRowM (heF s p td) (60 * r) h' ∧ FM r h0 h' ∧ h'.1 116 = h0.1 116)) 0 0 41 [some (.ref 84), some (.int (nI p)), some (.int (nI r)), some (.int (nI (60 * r))), some (.int (nI L.length)), some (.int (nI k)), some (.int (nI (60 * r + j)))] [] h := by
  obtain ⟨q1, q2, q3, q4, q5, q6⟩ := hp.2.2 k hkk
  have o1 := ho.2.2 k hkk
  have o3 := ho.2.1
  have o2 := ho.1
  intro n
  induction n with
  | zero =>
    intro j hj hn
    refine kx_iload (pc := 41) (kx_dd d_Mo_listHeirs 23 rfl) rfl ?_
    refine kx_iload_n (pc := 43) (kx_dd d_Mo_listHeirs 24 rfl) rfl rfl ?_
    refine kx_iload (pc := 44) (kx_dd d_Mo_listHeirs 25 rfl) rfl ?_
    refine kx_iadd (pc := 46) (kx_dd d_Mo_listHeirs 26 rfl) ?_
    refine kx_icmp_ge (pc := 47) (tgt := 73) (kx_dd d_Mo_listHeirs 27 rfl) rfl (fun c47 => ?_) (fun c47 => ?_)
    · exact kont j (by omega) hn (Or.inr (by omega))
    · exact absurd (by rw [nI_add]; exact nI_le (by omega) (by omega)) c47
  | succ n ih =>
    intro j hj hn
    obtain ⟨x, hx⟩ : ∃ x, L[j]? = some x := ⟨_, List.getElem?_eq_getElem (by omega)⟩
    have hxx := hL j x hx
    have hxo := hLo x (List.mem_of_getElem? hx)
    refine kx_iload (pc := 41) (kx_dd d_Mo_listHeirs 23 rfl) rfl ?_
    refine kx_iload_n (pc := 43) (kx_dd d_Mo_listHeirs 24 rfl) rfl rfl ?_
    refine kx_iload (pc := 44) (kx_dd d_Mo_listHeirs 25 rfl) rfl ?_
    refine kx_iadd (pc := 46) (kx_dd d_Mo_listHeirs 26 rfl) ?_
    refine kx_icmp_ge (pc := 47) (tgt := 73) (kx_dd d_Mo_listHeirs 27 rfl) rfl (fun c47 => ?_) (fun c47 => ?_)
    · exact absurd c47 (by rw [nI_add]; exact nI_ge (by omega) (by omega))
    · refine kx_aload_n (pc := 50) (kx_dd d_Mo_listHeirs 28 rfl) rfl rfl ?_
      refine kx_getR (pc := 51) (b := 149) fl_Mo_406 (hm.k 0 rfl) rfl (hm.r 64 rfl) (kx_dd d_Mo_listHeirs 29 rfl) ?_
      refine kx_iload (pc := 54) (kx_dd d_Mo_listHeirs 30 rfl) rfl ?_
      refine kx_ialdn (pc := 56) (60 * r + j) (hm.t 65 rfl) rfl (by omega) (by decide) (kx_dd d_Mo_listHeirs 31 rfl) ?_
      refine kx_aload_n (pc := 57) (kx_dd d_Mo_listHeirs 32 rfl) rfl rfl ?_
      refine kx_getR (pc := 58) (b := 110) fl_Mo_288 (hm.k 0 rfl) rfl (hm.r 25 rfl) (kx_dd d_Mo_listHeirs 33 rfl) ?_
      refine kx_iload (pc := 61) (kx_dd d_Mo_listHeirs 34 rfl) rfl ?_
      refine kx_ialdn (pc := 63) k (hm.t 26 rfl) rfl (by omega) (by decide) (kx_dd d_Mo_listHeirs 35 rfl) ?_
      refine kx_icmp_eq (pc := 64) (tgt := 73) (kx_dd d_Mo_listHeirs 36 rfl) rfl (fun c64 => ?_) (fun c64 => ?_)
      · rw [hxx.1, (q4 hkt).2, nI_eq (by omega) (by omega)] at c64
        exact kont j (by omega) hn (Or.inl ⟨x, hx, c64⟩)
      · refine kx_iinc_e (pc := 67) (v := nI (60 * r + (j + 1))) (lv' := [_, _, _, _, _, _, _]) (kx_dd d_Mo_listHeirs 37 rfl) rfl (Nat.le_of_ble_eq_true rfl) (nI_1 _) rfl ?_
        refine kx_goto (pc := 70) (tgt := 41) (kx_dd d_Mo_listHeirs 38 rfl) rfl ?_
        rw [hxx.1, (q4 hkt).2, nI_eq (by omega) (by omega)] at c64
        exact ih (j + 1) (by omega) (fun i y hi hy => by
          rcases Nat.lt_succ_iff_lt_or_eq.mp hi with h1 | rfl
          · exact hn i y h1 hy
          · rw [hx] at hy; cases hy; exact c64)
theorem y_listHeirs_loop {l : Launch} {g : kx_G} {d : Nat} {h : kx_Mem} (hm : SM h) (s : PS) (ho : PSok s) (hp : PSm s h) (p td r : Nat) (hpp : p < 2 ^ 31) (htd : td < 2 ^ 31) (hc : h.1 84 36 = nI td) (hr : r < 3) : ∀ n k, k + n = s.2.1 → ∀ w6 h1, FM r h h1 → heRowM (heK s p td k) (60 * r) h1 → h1.1 116 = h.1 116 → kx_X (l, g, m_Mo_listHeirs, d + 1, 0, 0, (fun v h' => v = some (.int (nI (heF s p td).length)) ∧ heRowM (heF s p td) (60 * r) h' ∧ FM r h h' ∧ h'.1 116 = h.1 116)) 0 0 11 [some (.ref 84), some (.int (nI p)), some (.int (nI r)), some (.int (nI (60 * r))), some (.int (nI (heK s p td k).length)), some (.int (nI k)), w6] [] (h1) := by
  intro n
  induction n with
  | zero =>
    intro k hk w6 h1 hf hrw hpu
    have hk0 : k = s.2.1 := by omega
    subst hk0
    have hm := hm.fp hf.fp
    have hp := hp.fp hf.fp (by decide)
    refine kx_iload (pc := 11) (kx_dd d_Mo_listHeirs 8 rfl) rfl ?_
    refine kx_aload_n (pc := 13) (kx_dd d_Mo_listHeirs 9 rfl) rfl rfl ?_
    refine kx_getI (pc := 14) fl_Mo_432 (hm.k 0 rfl) rfl (kx_dd d_Mo_listHeirs 10 rfl) ?_
    refine kx_icmp_ge (pc := 17) (tgt := 119) (kx_dd d_Mo_listHeirs 11 rfl) rfl (fun c17 => ?_) (fun c17 => ?_)
    · refine kx_iload (pc := 119) (kx_dd d_Mo_listHeirs 63 rfl) rfl ?_
      refine kx_iret (pc := 121) rfl (kx_dd d_Mo_listHeirs 64 rfl) (Nat.le_refl _) (Nat.le_refl _) ?_
      exact ⟨rfl, hrw, hf, hpu⟩
    · exact absurd (by rw [hp.2.1]; exact Int32.le_refl _) c17
  | succ n ih =>
    intro k hk w6 h1 hf hrw hpu
    have hm := hm.fp hf.fp
    have hp := hp.fp hf.fp (by decide)
    have hc : h1.1 84 36 = nI td := by rw [hf.2.1 84 (by decide) (by decide) (by decide)]; exact hc
    obtain ⟨q1, q2, q3, q4, q5, q6⟩ := hp.2.2 k (by omega)
    have o1 := ho.2.2 k (by omega)
    have o2 := ho.1
    have o3 := ho.2.1
    have o4 := heK_len ho p td k (by omega)
    have o5 := heK_ok ho p td k (by omega)
    refine kx_iload (pc := 11) (kx_dd d_Mo_listHeirs 8 rfl) rfl ?_
    refine kx_aload_n (pc := 13) (kx_dd d_Mo_listHeirs 9 rfl) rfl rfl ?_
    refine kx_getI (pc := 14) fl_Mo_432 (hm.k 0 rfl) rfl (kx_dd d_Mo_listHeirs 10 rfl) ?_
    refine kx_icmp_ge (pc := 17) (tgt := 119) (kx_dd d_Mo_listHeirs 11 rfl) rfl (fun c17 => ?_) (fun c17 => ?_)
    · exact absurd c17 (by rw [hp.2.1]; exact nI_ge (by omega) (by omega))
    · refine kx_aload_n (pc := 20) (kx_dd d_Mo_listHeirs 12 rfl) rfl rfl ?_
      refine kx_iload (pc := 21) (kx_dd d_Mo_listHeirs 13 rfl) rfl ?_
      refine kx_iconst (pc := 23) (v := 2) (kx_dd d_Mo_listHeirs 14 rfl) rfl ?_
      refine kx_iload_n (pc := 24) (kx_dd d_Mo_listHeirs 15 rfl) rfl rfl ?_
      refine kx_aload_n (pc := 25) (kx_dd d_Mo_listHeirs 16 rfl) rfl rfl ?_
      refine kx_getI (pc := 26) fl_Mo_426 (hm.k 0 rfl) rfl (kx_dd d_Mo_listHeirs 17 rfl) ?_
      rw [hc]
      refine kx_invV (pc := 29) (a := 84) (as := [_, _, _, _]) (kx_dd d_Mo_listHeirs 18 rfl) ⟨lk_Mo_450, wi_Mo_isTelling, we_Mo_isTelling⟩ w_Mo_isTelling (hm.k 0 rfl) rfl rfl rfl rfl (by decide) (y_isTelling (d := d) hm s ho hp k 2 p td (by omega) (by decide) hpp htd) (Nat.le_refl _) ⟨Nat.le_refl _, Nat.le_refl _⟩ (fun v h' hq => ?_)
      obtain ⟨rfl, he⟩ := hq
      rw [he]
      clear he
      refine kx_if_ne (pc := 32) (tgt := 38) (kx_dd d_Mo_listHeirs 19 rfl) rfl (fun c32 => ?_) (fun c32 => ?_)
      · refine kx_iload_n (pc := 38) (kx_dd d_Mo_listHeirs 21 rfl) rfl rfl ?_
        refine kx_istore_e (pc := 39) (lv' := [_, _, _, _, _, _, _]) (kx_dd d_Mo_listHeirs 22 rfl) (Nat.le_of_ble_eq_true rfl) rfl ?_
        rw [bP_0, Classical.not_not] at c32
        refine y_lh_in (h0 := h) hm s ho hp p td r k hr (by omega) c32.1 (heK s p td k) o4 hrw (fun x hx => (o5.2 x hx).1) (fun j hj hn hj2 => ?_) (heK s p td k).length 0 (by omega) (fun i x hi => absurd hi (Nat.not_lt_zero i))
        have hj60 : j < 60 := by
          rcases hj2 with ⟨x, hx, -⟩ | hj2
          · have := (List.getElem?_eq_some_iff.mp hx).1; omega
          · have h2 := ph_len s.1 ((heK s p td (k + 1)).map (·.1)) (heK_ok ho p td (k + 1) (by omega)).1 (fun x hx => by obtain ⟨y, hy, rfl⟩ := List.mem_map.mp hx; exact ((heK_ok ho p td (k + 1) (by omega)).2 y hy).1)
            rw [show heK s p td (k + 1) = hePut (heK s p td k) (s.2.2.2.2.2.1 k) (s.2.2.2.2.2.2 k) from if_pos c32, List.length_map, (hePut_eq _ _ _ j hn).2 hj2] at h2
            simp at h2
            omega
        refine kx_iload (pc := 73) (kx_dd d_Mo_listHeirs 39 rfl) rfl ?_
        refine kx_iload_n (pc := 75) (kx_dd d_Mo_listHeirs 40 rfl) rfl rfl ?_
        refine kx_iload (pc := 76) (kx_dd d_Mo_listHeirs 41 rfl) rfl ?_
        refine kx_iadd (pc := 78) (kx_dd d_Mo_listHeirs 42 rfl) ?_
        refine kx_icmp_ne (pc := 79) (tgt := 85) (kx_dd d_Mo_listHeirs 43 rfl) rfl (fun c79 => ?_) (fun c79 => ?_)
        · refine kx_aload_n (pc := 85) (kx_dd d_Mo_listHeirs 45 rfl) rfl rfl ?_
          refine kx_getR (pc := 86) (b := 149) fl_Mo_406 (hm.k 0 rfl) rfl (hm.r 64 rfl) (kx_dd d_Mo_listHeirs 46 rfl) ?_
          refine kx_iload (pc := 89) (kx_dd d_Mo_listHeirs 47 rfl) rfl ?_
          refine kx_aload_n (pc := 91) (kx_dd d_Mo_listHeirs 48 rfl) rfl rfl ?_
          refine kx_getR (pc := 92) (b := 110) fl_Mo_288 (hm.k 0 rfl) rfl (hm.r 25 rfl) (kx_dd d_Mo_listHeirs 49 rfl) ?_
          refine kx_iload (pc := 95) (kx_dd d_Mo_listHeirs 50 rfl) rfl ?_
          refine kx_ialdn (pc := 97) k (hm.t 26 rfl) rfl (by omega) (by decide) (kx_dd d_Mo_listHeirs 51 rfl) ?_
          refine kx_iastn (pc := 98) (60 * r + j) (hm.t 65 rfl) (by decide) rfl (by omega) (by decide) (kx_dd d_Mo_listHeirs 52 rfl) ?_
          refine kx_aload_n (pc := 99) (kx_dd d_Mo_listHeirs 53 rfl) rfl rfl ?_
          refine kx_getR (pc := 100) (b := 150) fl_Mo_409 (hm.k 0 rfl) rfl (hm.r 65 rfl) (kx_dd d_Mo_listHeirs 54 rfl) ?_
          refine kx_iload (pc := 103) (kx_dd d_Mo_listHeirs 55 rfl) rfl ?_
          refine kx_aload_n (pc := 105) (kx_dd d_Mo_listHeirs 56 rfl) rfl rfl ?_
          refine kx_getR (pc := 106) (b := 109) fl_Mo_285 (hm.k 0 rfl) rfl (hm.r 24 rfl) (kx_dd d_Mo_listHeirs 57 rfl) ?_
          refine kx_iload (pc := 109) (kx_dd d_Mo_listHeirs 58 rfl) rfl ?_
          refine kx_ialdn (pc := 111) k (hm.t 25 rfl) rfl (by omega) (by decide) (kx_dd d_Mo_listHeirs 59 rfl) ?_
          refine kx_iastn (pc := 112) (60 * r + j) (hm.t 66 rfl) (by decide) rfl (by omega) (by decide) (kx_dd d_Mo_listHeirs 60 rfl) ?_
          refine kx_iinc_e (pc := 113) (v := nI (k + 1)) (lv' := [_, _, _, _, _, _, _]) (kx_dd d_Mo_listHeirs 61 rfl) rfl (Nat.le_of_ble_eq_true rfl) (nI_1 k) rfl ?_
          refine kx_goto (pc := 116) (tgt := 11) (kx_dd d_Mo_listHeirs 62 rfl) rfl ?_
          have hP := hrw.put (n := s.2.2.2.2.2.2 k) hn hj2
          have e1 : heK s p td (k + 1) = hePut (heK s p td k) (s.2.2.2.2.2.1 k) (s.2.2.2.2.2.2 k) := if_pos c32
          have e3 : (kx_setI h1 149 (60 * r + j) (h1.1 110 k)).1 109 k = nI (s.2.2.2.2.2.2 k) := (q4 c32.1).1
          rw [e3, (q4 c32.1).2]
          rw [nI_add, nI_eq (by omega) (by omega)] at c79
          have e2 : (hePut (heK s p td k) (s.2.2.2.2.2.1 k) (s.2.2.2.2.2.2 k)).length = (heK s p td k).length := by
            rcases hj2 with hj2 | hj2
            · exact hP.2.1 hj2
            · omega
          have ih1 := ih (k + 1) (by omega) (some (.int (nI (60 * r + j)))) _ (hf.tr (FM.set2 (j := 60 * r + j) (v := nI (s.2.2.2.2.2.1 k)) (w := nI (s.2.2.2.2.2.2 k)) (by omega))) (by rw [e1]; exact hP.1) hpu
          rw [e1, e2] at ih1
          exact ih1
        · refine kx_iinc_e (pc := 82) (v := nI ((heK s p td k).length + 1)) (lv' := [_, _, _, _, _, _, _]) (kx_dd d_Mo_listHeirs 44 rfl) rfl (Nat.le_of_ble_eq_true rfl) (nI_1 _) rfl ?_
          refine kx_aload_n (pc := 85) (kx_dd d_Mo_listHeirs 45 rfl) rfl rfl ?_
          refine kx_getR (pc := 86) (b := 149) fl_Mo_406 (hm.k 0 rfl) rfl (hm.r 64 rfl) (kx_dd d_Mo_listHeirs 46 rfl) ?_
          refine kx_iload (pc := 89) (kx_dd d_Mo_listHeirs 47 rfl) rfl ?_
          refine kx_aload_n (pc := 91) (kx_dd d_Mo_listHeirs 48 rfl) rfl rfl ?_
          refine kx_getR (pc := 92) (b := 110) fl_Mo_288 (hm.k 0 rfl) rfl (hm.r 25 rfl) (kx_dd d_Mo_listHeirs 49 rfl) ?_
          refine kx_iload (pc := 95) (kx_dd d_Mo_listHeirs 50 rfl) rfl ?_
          refine kx_ialdn (pc := 97) k (hm.t 26 rfl) rfl (by omega) (by decide) (kx_dd d_Mo_listHeirs 51 rfl) ?_
          refine kx_iastn (pc := 98) (60 * r + j) (hm.t 65 rfl) (by decide) rfl (by omega) (by decide) (kx_dd d_Mo_listHeirs 52 rfl) ?_
          refine kx_aload_n (pc := 99) (kx_dd d_Mo_listHeirs 53 rfl) rfl rfl ?_
          refine kx_getR (pc := 100) (b := 150) fl_Mo_409 (hm.k 0 rfl) rfl (hm.r 65 rfl) (kx_dd d_Mo_listHeirs 54 rfl) ?_
          refine kx_iload (pc := 103) (kx_dd d_Mo_listHeirs 55 rfl) rfl ?_
          refine kx_aload_n (pc := 105) (kx_dd d_Mo_listHeirs 56 rfl) rfl rfl ?_
          refine kx_getR (pc := 106) (b := 109) fl_Mo_285 (hm.k 0 rfl) rfl (hm.r 24 rfl) (kx_dd d_Mo_listHeirs 57 rfl) ?_
          refine kx_iload (pc := 109) (kx_dd d_Mo_listHeirs 58 rfl) rfl ?_
          refine kx_ialdn (pc := 111) k (hm.t 25 rfl) rfl (by omega) (by decide) (kx_dd d_Mo_listHeirs 59 rfl) ?_
          refine kx_iastn (pc := 112) (60 * r + j) (hm.t 66 rfl) (by decide) rfl (by omega) (by decide) (kx_dd d_Mo_listHeirs 60 rfl) ?_
          refine kx_iinc_e (pc := 113) (v := nI (k + 1)) (lv' := [_, _, _, _, _, _, _]) (kx_dd d_Mo_listHeirs 61 rfl) rfl (Nat.le_of_ble_eq_true rfl) (nI_1 k) rfl ?_
          refine kx_goto (pc := 116) (tgt := 11) (kx_dd d_Mo_listHeirs 62 rfl) rfl ?_
          have hP := hrw.put (n := s.2.2.2.2.2.2 k) hn hj2
          have e1 : heK s p td (k + 1) = hePut (heK s p td k) (s.2.2.2.2.2.1 k) (s.2.2.2.2.2.2 k) := if_pos c32
          have e3 : (kx_setI h1 149 (60 * r + j) (h1.1 110 k)).1 109 k = nI (s.2.2.2.2.2.2 k) := (q4 c32.1).1
          rw [e3, (q4 c32.1).2]
          rw [nI_add, nI_eq (by omega) (by omega)] at c79
          have e2 : (hePut (heK s p td k) (s.2.2.2.2.2.1 k) (s.2.2.2.2.2.2 k)).length = (heK s p td k).length + 1 := by
            rcases hj2 with hj2 | hj2
            · obtain ⟨x, hx, -⟩ := hj2; have := (List.getElem?_eq_some_iff.mp hx).1; omega
            · exact hP.2.2 hj2
          have ih1 := ih (k + 1) (by omega) (some (.int (nI (60 * r + j)))) _ (hf.tr (FM.set2 (j := 60 * r + j) (v := nI (s.2.2.2.2.2.1 k)) (w := nI (s.2.2.2.2.2.2 k)) (by omega))) (by rw [e1]; exact hP.1) hpu
          rw [e1, e2] at ih1
          exact ih1
      · refine kx_goto (pc := 35) (tgt := 113) (kx_dd d_Mo_listHeirs 20 rfl) rfl ?_
        refine kx_iinc_e (pc := 113) (v := nI (k + 1)) (lv' := [_, _, _, _, _, _, _]) (kx_dd d_Mo_listHeirs 61 rfl) rfl (Nat.le_of_ble_eq_true rfl) (nI_1 k) rfl ?_
        refine kx_goto (pc := 116) (tgt := 11) (kx_dd d_Mo_listHeirs 62 rfl) rfl ?_
        rw [bP_0] at c32
        have e1 : heK s p td (k + 1) = heK s p td k := if_neg c32
        have ih1 := ih (k + 1) (by omega) w6 h1 hf (by rw [e1]; exact hrw) hpu
        rw [e1] at ih1
        exact ih1
theorem y_listHeirs {l : Launch} {g : kx_G} {d : Nat} {h : kx_Mem} (hm : SM h) (s : PS) (ho : PSok s) (hp : PSm s h) (p td r : Nat) (hpp : p < 2 ^ 31) (htd : td < 2 ^ 31) (hc : h.1 84 36 = nI td) (hr : r < 3) : kx_Sp l g m_Mo_listHeirs [.ref 84, .int (nI p), .int (nI r)] h (d + 1) 0 0 (fun v h' => v = some (.int (nI (heF s p td).length)) ∧ heRowM (heF s p td) (60 * r) h' ∧ FM r h h' ∧ h'.1 116 = h.1 116) := by
  refine kx_enter_e (lv := [_, _, _, _, _, _, _]) (by decide +kernel) (Nat.le_of_ble_eq_true rfl) rfl ?_
  refine kx_bipush (pc := 0) (v := 60) (kx_dd d_Mo_listHeirs 0 rfl) rfl ?_
  refine kx_iload_n (pc := 2) (kx_dd d_Mo_listHeirs 1 rfl) rfl rfl ?_
  refine kx_imul (pc := 3) (kx_dd d_Mo_listHeirs 2 rfl) ?_
  rw [show (60 : Int32) * nI r = nI (60 * r) from pk_mul 60 r]
  refine kx_istore_ne (pc := 4) (lv' := [_, _, _, _, _, _, _]) (kx_dd d_Mo_listHeirs 3 rfl) rfl (Nat.le_of_ble_eq_true rfl) rfl ?_
  refine kx_iconst (pc := 5) (v := 0) (kx_dd d_Mo_listHeirs 4 rfl) rfl ?_
  refine kx_istore_e (pc := 6) (lv' := [_, _, _, _, _, _, _]) (kx_dd d_Mo_listHeirs 5 rfl) (Nat.le_of_ble_eq_true rfl) rfl ?_
  refine kx_iconst (pc := 8) (v := 0) (kx_dd d_Mo_listHeirs 6 rfl) rfl ?_
  refine kx_istore_e (pc := 9) (lv' := [_, _, _, _, _, _, _]) (kx_dd d_Mo_listHeirs 7 rfl) (Nat.le_of_ble_eq_true rfl) rfl ?_
  exact y_listHeirs_loop hm s ho hp p td r hpp htd hc hr s.2.1 0 (by omega) none h FM.rf (fun j q hj => by simp [heK] at hj) rfl
