/-! the reference: give, lots -/
theorem y_give_l1 {l : Launch} {g : kx_G} {D : Nat} {Q : Option Value → kx_Mem → Prop} {h : kx_Mem} (hm : SM h) (p m r : Nat) (hmm : m < 2 ^ 31) (hr : r < 3) (L : List (Nat × Nat)) (hL : heRowM L (60 * r) h) (hLL : L.length ≤ 60) (hLo : ∀ x ∈ L, x.1 < 60 ∧ x.2 ≤ 99) (w8 w9 : Option Value) (kont : kx_X (l, g, m_Mo_give, D, 0, 0, Q) 0 0 90 [some (.ref 84), some (.int (nI p)), some (.int (nI m)), some (.int (nI r)), some (.int (nI L.length)), some (.int (nI (60 * r))), some (.int (nI (sumP L L.length))), some (.int (nI (60 * r + L.length))), w8, w9] [] h) : ∀ n k, k + n = L.length → kx_X (l, g, m_Mo_give, D, 0, 0, Q) 0 0 62 [some (.ref 84), some (.int (nI p)), some (.int (nI m)), some (.int (nI r)), some (.int (nI L.length)), some (.int (nI (60 * r))), some (.int (nI (sumP L k))), some (.int (nI (60 * r + k))), w8, w9] [] h := by
  intro n
  induction n with
  | zero =>
    intro k hk
    have hk0 : k = L.length := by omega
    subst hk0
    refine kx_iload (pc := 62) (kx_dd d_Mo_give 37 rfl) rfl ?_
    refine kx_iload (pc := 64) (kx_dd d_Mo_give 38 rfl) rfl ?_
    refine kx_iload (pc := 66) (kx_dd d_Mo_give 39 rfl) rfl ?_
    refine kx_iadd (pc := 68) (kx_dd d_Mo_give 40 rfl) ?_
    refine kx_icmp_ge (pc := 69) (tgt := 90) (kx_dd d_Mo_give 41 rfl) rfl (fun c69 => ?_) (fun c69 => ?_)
    · exact kont
    · exact absurd (by rw [nI_add]; exact Int32.le_refl _) c69
  | succ n ih =>
    intro k hk
    obtain ⟨x, hx⟩ : ∃ x, L[k]? = some x := ⟨_, List.getElem?_eq_getElem (by omega)⟩
    have hxx := hL k x hx
    have hxo := hLo x (List.mem_of_getElem? hx)
    refine kx_iload (pc := 62) (kx_dd d_Mo_give 37 rfl) rfl ?_
    refine kx_iload (pc := 64) (kx_dd d_Mo_give 38 rfl) rfl ?_
    refine kx_iload (pc := 66) (kx_dd d_Mo_give 39 rfl) rfl ?_
    refine kx_iadd (pc := 68) (kx_dd d_Mo_give 40 rfl) ?_
    refine kx_icmp_ge (pc := 69) (tgt := 90) (kx_dd d_Mo_give 41 rfl) rfl (fun c69 => ?_) (fun c69 => ?_)
    · exact absurd c69 (by rw [nI_add]; exact nI_ge (by omega) (by omega))
    · refine kx_iload (pc := 72) (kx_dd d_Mo_give 42 rfl) rfl ?_
      refine kx_aload_n (pc := 74) (kx_dd d_Mo_give 43 rfl) rfl rfl ?_
      refine kx_getR (pc := 75) (b := 150) fl_Mo_409 (hm.k 0 rfl) rfl (hm.r 65 rfl) (kx_dd d_Mo_give 44 rfl) ?_
      refine kx_iload (pc := 78) (kx_dd d_Mo_give 45 rfl) rfl ?_
      refine kx_ialdn (pc := 80) (60 * r + k) (hm.t 66 rfl) rfl (by omega) (by decide) (kx_dd d_Mo_give 46 rfl) ?_
      refine kx_iadd (pc := 81) (kx_dd d_Mo_give 47 rfl) ?_
      refine kx_istore_e (pc := 82) (lv' := [_, _, _, _, _, _, _, _, _, _]) (kx_dd d_Mo_give 48 rfl) (Nat.le_of_ble_eq_true rfl) rfl ?_
      refine kx_iinc_e (pc := 84) (v := nI (60 * r + (k + 1))) (lv' := [_, _, _, _, _, _, _, _, _, _]) (kx_dd d_Mo_give 49 rfl) rfl (Nat.le_of_ble_eq_true rfl) (nI_1 _) rfl ?_
      refine kx_goto (pc := 87) (tgt := 62) (kx_dd d_Mo_give 50 rfl) rfl ?_
      have ih1 := ih (k + 1) (by omega)
      rw [sumP_s hx] at ih1
      rw [hxx.2, nI_add]
      exact ih1
theorem y_give_l2 {l : Launch} {g : kx_G} {D : Nat} {Q : Option Value → kx_Mem → Prop} {h : kx_Mem} (hm : SM h) (p m r : Nat) (hmm : m < 2 ^ 31) (hr : r < 3) (L : List (Nat × Nat)) (hL : heRowM L (60 * r) h) (hLL : L.length ≤ 60) (hLo : ∀ x ∈ L, x.1 < 60 ∧ x.2 ≤ 99) (w8 w9 : Option Value) (hW : 0 < sumP L L.length) (hW2 : sumP L L.length < 2 ^ 31) (hdv : ¬ (nI (sumP L L.length)).toInt64 = 0) (kont : kx_X (l, g, m_Mo_give, D, 0, 0, Q) 0 0 134 [some (.ref 84), some (.int (nI p)), some (.int (nI m)), some (.int (nI r)), some (.int (nI L.length)), some (.int (nI (60 * r))), some (.int (nI (sumP L L.length))), some (.int (nI (m - quoP m (sumP L L.length) L L.length))), some (.int (nI (60 * r + L.length))), w9] [] h) : ∀ n k, k + n = L.length → kx_X (l, g, m_Mo_give, D, 0, 0, Q) 0 0 97 [some (.ref 84), some (.int (nI p)), some (.int (nI m)), some (.int (nI r)), some (.int (nI L.length)), some (.int (nI (60 * r))), some (.int (nI (sumP L L.length))), some (.int (nI (m - quoP m (sumP L L.length) L k))), some (.int (nI (60 * r + k))), w9] [] h := by
  intro n
  induction n with
  | zero =>
    intro k hk
    have hk0 : k = L.length := by omega
    subst hk0
    refine kx_iload (pc := 97) (kx_dd d_Mo_give 55 rfl) rfl ?_
    refine kx_iload (pc := 99) (kx_dd d_Mo_give 56 rfl) rfl ?_
    refine kx_iload (pc := 101) (kx_dd d_Mo_give 57 rfl) rfl ?_
    refine kx_iadd (pc := 103) (kx_dd d_Mo_give 58 rfl) ?_
    refine kx_icmp_ge (pc := 104) (tgt := 134) (kx_dd d_Mo_give 59 rfl) rfl (fun c104 => ?_) (fun c104 => ?_)
    · exact kont
    · exact absurd (by rw [nI_add]; exact Int32.le_refl _) c104
  | succ n ih =>
    intro k hk
    obtain ⟨x, hx⟩ : ∃ x, L[k]? = some x := ⟨_, List.getElem?_eq_getElem (by omega)⟩
    have hxx := hL k x hx
    have hxo := hLo x (List.mem_of_getElem? hx)
    refine kx_iload (pc := 97) (kx_dd d_Mo_give 55 rfl) rfl ?_
    refine kx_iload (pc := 99) (kx_dd d_Mo_give 56 rfl) rfl ?_
    refine kx_iload (pc := 101) (kx_dd d_Mo_give 57 rfl) rfl ?_
    refine kx_iadd (pc := 103) (kx_dd d_Mo_give 58 rfl) ?_
    refine kx_icmp_ge (pc := 104) (tgt := 134) (kx_dd d_Mo_give 59 rfl) rfl (fun c104 => ?_) (fun c104 => ?_)
    · exact absurd c104 (by rw [nI_add]; exact nI_ge (by omega) (by omega))
    · refine kx_iload (pc := 107) (kx_dd d_Mo_give 60 rfl) rfl ?_
      refine kx_iload_n (pc := 109) (kx_dd d_Mo_give 61 rfl) rfl rfl ?_
      refine kx_i2l (pc := 110) (kx_dd d_Mo_give 62 rfl) ?_
      refine kx_aload_n (pc := 111) (kx_dd d_Mo_give 63 rfl) rfl rfl ?_
      refine kx_getR (pc := 112) (b := 150) fl_Mo_409 (hm.k 0 rfl) rfl (hm.r 65 rfl) (kx_dd d_Mo_give 64 rfl) ?_
      refine kx_iload (pc := 115) (kx_dd d_Mo_give 65 rfl) rfl ?_
      refine kx_ialdn (pc := 117) (60 * r + k) (hm.t 66 rfl) rfl (by omega) (by decide) (kx_dd d_Mo_give 66 rfl) ?_
      refine kx_i2l (pc := 118) (kx_dd d_Mo_give 67 rfl) ?_
      refine kx_lmul (pc := 119) (kx_dd d_Mo_give 68 rfl) ?_
      refine kx_iload (pc := 120) (kx_dd d_Mo_give 69 rfl) rfl ?_
      refine kx_i2l (pc := 122) (kx_dd d_Mo_give 70 rfl) ?_
      refine kx_ldiv (pc := 123) (kx_dd d_Mo_give 71 rfl) hdv ?_
      refine kx_l2i (pc := 124) (kx_dd d_Mo_give 72 rfl) ?_
      refine kx_isub (pc := 125) (kx_dd d_Mo_give 73 rfl) ?_
      refine kx_istore_e (pc := 126) (lv' := [_, _, _, _, _, _, _, _, _, _]) (kx_dd d_Mo_give 74 rfl) (Nat.le_of_ble_eq_true rfl) rfl ?_
      refine kx_iinc_e (pc := 128) (v := nI (60 * r + (k + 1))) (lv' := [_, _, _, _, _, _, _, _, _, _]) (kx_dd d_Mo_give 75 rfl) rfl (Nat.le_of_ble_eq_true rfl) (nI_1 _) rfl ?_
      refine kx_goto (pc := 131) (tgt := 97) (kx_dd d_Mo_give 76 rfl) rfl ?_
      have ih1 := ih (k + 1) (by omega)
      have e1 := quoP_s (m := m) (W := sumP L L.length) hx
      have e2 := quoP_le (m := m) hW (k + 1) (by omega)
      have e3 := shareI (m := m) (x := x.2) (W := sumP L L.length) hmm (by omega) hW (by omega)
      rw [hxx.2, e3, pk_sub (by omega), show m - quoP m (sumP L L.length) L k - m * x.2 / sumP L L.length = m - quoP m (sumP L L.length) L (k + 1) by omega]
      exact ih1
theorem keepM {p m r : Nat} {h : kx_Mem} : (kx_setI h 116 p (h.1 116 p + nI m)).1 116 = puAdd (h.1 116) p m ∧ FM r h (kx_setI h 116 p (h.1 116 p + nI m)) := ⟨by funext q; unfold kx_setI puAdd; simp only [kx_up_at], FM.pu⟩
theorem y_give_l3 {l : Launch} {g : kx_G} {d : Nat} (s : PS) (ho : PSok s) (td : Nat) (htd : td < 2 ^ 31) (n r : Nat) (hrn : r + (n + 1) = 3) (IH : ∀ (h : kx_Mem), SM h → PSm s h → h.1 84 36 = nI td → ∀ (p m : Nat), p < s.1 → m + n + 1 < 2 ^ 31 →  kx_Sp l g m_Mo_give [.ref 84, .int (nI p), .int (nI m), .int (nI (r + 1))] h (d + n + 2) 0 0 (fun v h' => v = none ∧ h'.1 116 = handF s td n p m (h.1 116) ∧ FM (r + 1) h h')) {h : kx_Mem} (hm : SM h) (hp : PSm s h) (hc : h.1 84 36 = nI td) (p m : Nat) (hmm : m + (n + 1) + 1 < 2 ^ 31) (hW : 0 < sumP (heF s p td) (heF s p td).length) : ∀ c k, k + c = (heF s p td).length → ∀ w9 h2, heRowM (heF s p td) (60 * r) h2 → h2.1 116 = hanK s td n m (heF s p td) (h.1 116) k → FM r h h2 → kx_X (l, g, m_Mo_give, d + (n + 1) + 2, 0, 0, (fun v h' => v = none ∧ h'.1 116 = hanK s td n m (heF s p td) (h.1 116) (heF s p td).length ∧ FM r h h')) 0 0 138 [some (.ref 84), some (.int (nI p)), some (.int (nI m)), some (.int (nI r)), some (.int (nI (heF s p td).length)), some (.int (nI (60 * r))), some (.int (nI (sumP (heF s p td) (heF s p td).length))), some (.int (nI (m - quoP m (sumP (heF s p td) (heF s p td).length) (heF s p td) (heF s p td).length))), some (.int (nI (60 * r + k))), w9] [] h2 := by
  have hr : r < 3 := by omega
  have o4 : (heF s p td).length ≤ 60 := heK_len ho p td s.2.1 (Nat.le_refl _)
  have o5 : ∀ x ∈ heF s p td, x.1 < s.1 ∧ 1 ≤ x.2 ∧ x.2 ≤ 99 := (heK_ok ho p td s.2.1 (Nat.le_refl _)).2
  have o2 := ho.1
  have o6 : ∀ x ∈ heF s p td, x.1 < 60 ∧ x.2 ≤ 99 := fun x hx => by have := o5 x hx; omega
  have o7 := sumP_b o6 (heF s p td).length
  intro c
  induction c with
  | zero =>
    intro k hk w9 h2 hL hpu hf
    have hk0 : k = (heF s p td).length := by omega
    subst hk0
    refine kx_iload (pc := 138) (kx_dd d_Mo_give 79 rfl) rfl ?_
    refine kx_iload (pc := 140) (kx_dd d_Mo_give 80 rfl) rfl ?_
    refine kx_iload (pc := 142) (kx_dd d_Mo_give 81 rfl) rfl ?_
    refine kx_iadd (pc := 144) (kx_dd d_Mo_give 82 rfl) ?_
    refine kx_icmp_ge (pc := 145) (tgt := 209) (kx_dd d_Mo_give 83 rfl) rfl (fun c145 => ?_) (fun c145 => ?_)
    · refine kx_vret (pc := 209) rfl (kx_dd d_Mo_give 120 rfl) (Nat.le_refl _) (Nat.le_refl _) ?_
      exact ⟨rfl, hpu, hf⟩
    · exact absurd (by rw [nI_add]; exact Int32.le_refl _) c145
  | succ c ih =>
    intro k hk w9 h2 hL hpu hf
    have hm2 := hm.fp hf.fp
    have hp2 : PSm s h2 := hp.fp hf.fp (by decide)
    have hc2 : h2.1 84 36 = nI td := by rw [hf.2.1 84 (by decide) (by decide) (by decide)]; exact hc
    have hm := hm2
    obtain ⟨x, hx⟩ : ∃ x, (heF s p td)[k]? = some x := ⟨_, List.getElem?_eq_getElem (by omega)⟩
    have hxx := hL k x hx
    have hxo := o5 x (List.mem_of_getElem? hx)
    have hgd : (heF s p td).getD k (0, 0) = x := by simp [List.getD, hx]
    have hdv := dv_ne hW (by omega)
    have e3 := shareI (m := m) (x := x.2) (W := sumP (heF s p td) (heF s p td).length) (by omega) (by omega) hW (by omega)
    have e4 := quoP_le (m := m) hW (heF s p td).length (Nat.le_refl _)
    have e5 := shrP_le (m := m) (k := k) (L := heF s p td) (by omega) hW
    refine kx_iload (pc := 138) (kx_dd d_Mo_give 79 rfl) rfl ?_
    refine kx_iload (pc := 140) (kx_dd d_Mo_give 80 rfl) rfl ?_
    refine kx_iload (pc := 142) (kx_dd d_Mo_give 81 rfl) rfl ?_
    refine kx_iadd (pc := 144) (kx_dd d_Mo_give 82 rfl) ?_
    refine kx_icmp_ge (pc := 145) (tgt := 209) (kx_dd d_Mo_give 83 rfl) rfl (fun c145 => ?_) (fun c145 => ?_)
    · exact absurd c145 (by rw [nI_add]; exact nI_ge (by omega) (by omega))
    · refine kx_iload_n (pc := 148) (kx_dd d_Mo_give 84 rfl) rfl rfl ?_
      refine kx_i2l (pc := 149) (kx_dd d_Mo_give 85 rfl) ?_
      refine kx_aload_n (pc := 150) (kx_dd d_Mo_give 86 rfl) rfl rfl ?_
      refine kx_getR (pc := 151) (b := 150) fl_Mo_409 (hm.k 0 rfl) rfl (hm.r 65 rfl) (kx_dd d_Mo_give 87 rfl) ?_
      refine kx_iload (pc := 154) (kx_dd d_Mo_give 88 rfl) rfl ?_
      refine kx_ialdn (pc := 156) (60 * r + k) (hm.t 66 rfl) rfl (by omega) (by decide) (kx_dd d_Mo_give 89 rfl) ?_
      refine kx_i2l (pc := 157) (kx_dd d_Mo_give 90 rfl) ?_
      refine kx_lmul (pc := 158) (kx_dd d_Mo_give 91 rfl) ?_
      refine kx_iload (pc := 159) (kx_dd d_Mo_give 92 rfl) rfl ?_
      refine kx_i2l (pc := 161) (kx_dd d_Mo_give 93 rfl) ?_
      refine kx_ldiv (pc := 162) (kx_dd d_Mo_give 94 rfl) hdv ?_
      refine kx_l2i (pc := 163) (kx_dd d_Mo_give 95 rfl) ?_
      refine kx_iload (pc := 164) (kx_dd d_Mo_give 96 rfl) rfl ?_
      refine kx_iload (pc := 166) (kx_dd d_Mo_give 97 rfl) rfl ?_
      refine kx_isub (pc := 168) (kx_dd d_Mo_give 98 rfl) ?_
      refine kx_iload (pc := 169) (kx_dd d_Mo_give 99 rfl) rfl ?_
      refine kx_icmp_ge (pc := 171) (tgt := 178) (kx_dd d_Mo_give 100 rfl) rfl (fun c171 => ?_) (fun c171 => ?_)
      · refine kx_iconst (pc := 178) (v := 0) (kx_dd d_Mo_give 103 rfl) rfl ?_
        refine kx_iadd (pc := 179) (kx_dd d_Mo_give 104 rfl) ?_
        rw [pk_sub (show 60 * r ≤ 60 * r + k by omega), show 60 * r + k - 60 * r = k by omega, nI_leI (by omega) (by omega)] at c171
        have e6 : shrP m (heF s p td) k = m * x.2 / sumP (heF s p td) (heF s p td).length + 0 := by
          unfold shrP
          rw [hgd, if_neg (by omega)]
        have e7 : ((nI m).toInt64 * (h2.1 150 (60 * r + k)).toInt64 / (nI (sumP (heF s p td) (heF s p td).length)).toInt64).toInt32 + 0 = nI (shrP m (heF s p td) k) := by
          rw [hxx.2, e3, e6]
          exact nI_add _ 0
        rw [e7]
        refine kx_istore_e (pc := 180) (lv' := [_, _, _, _, _, _, _, _, _, _]) (kx_dd d_Mo_give 105 rfl) (Nat.le_of_ble_eq_true rfl) rfl ?_
        refine kx_iload (pc := 182) (kx_dd d_Mo_give 106 rfl) rfl ?_
        refine kx_if_le (pc := 184) (tgt := 203) (kx_dd d_Mo_give 107 rfl) rfl (fun c184 => ?_) (fun c184 => ?_)
        · refine kx_iinc_e (pc := 203) (v := nI (60 * r + (k + 1))) (lv' := [_, _, _, _, _, _, _, _, _, _]) (kx_dd d_Mo_give 118 rfl) rfl (Nat.le_of_ble_eq_true rfl) (nI_1 _) rfl ?_
          refine kx_goto (pc := 206) (tgt := 138) (kx_dd d_Mo_give 119 rfl) rfl ?_
          rw [show (0 : Int32) = nI 0 from rfl, nI_leI (by omega) (by omega)] at c184
          exact ih (k + 1) (by omega) _ h2 hL (by rw [hanK_s, if_neg (by omega)]; exact hpu) hf
        · refine kx_aload_n (pc := 187) (kx_dd d_Mo_give 108 rfl) rfl rfl ?_
          refine kx_aload_n (pc := 188) (kx_dd d_Mo_give 109 rfl) rfl rfl ?_
          refine kx_getR (pc := 189) (b := 149) fl_Mo_406 (hm.k 0 rfl) rfl (hm.r 64 rfl) (kx_dd d_Mo_give 110 rfl) ?_
          refine kx_iload (pc := 192) (kx_dd d_Mo_give 111 rfl) rfl ?_
          refine kx_ialdn (pc := 194) (60 * r + k) (hm.t 65 rfl) rfl (by omega) (by decide) (kx_dd d_Mo_give 112 rfl) ?_
          refine kx_iload (pc := 195) (kx_dd d_Mo_give 113 rfl) rfl ?_
          refine kx_iload_n (pc := 197) (kx_dd d_Mo_give 114 rfl) rfl rfl ?_
          refine kx_iconst (pc := 198) (v := 1) (kx_dd d_Mo_give 115 rfl) rfl ?_
          refine kx_iadd (pc := 199) (kx_dd d_Mo_give 116 rfl) ?_
          rw [show (0 : Int32) = nI 0 from rfl, nI_leI (by omega) (by omega)] at c184
          have hpos : 0 < shrP m (heF s p td) k := by omega
          rw [hxx.1, show nI r + 1 = nI (r + 1) from nI_1 r]
          refine kx_invV (pc := 200) (a := 84) (as := [_, _, _]) (kx_dd d_Mo_give 117 rfl) ⟨lk_Mo_612, wi_Mo_give, we_Mo_give⟩ w_Mo_give (hm.k 0 rfl) rfl rfl rfl rfl (by decide) (IH h2 hm2 hp2 hc2 x.1 (shrP m (heF s p td) k) hxo.1 (by omega)) (Nat.le_refl _) ⟨Nat.le_refl _, Nat.le_refl _⟩ (fun v h' hq => ?_)
          obtain ⟨rfl, hqe, hfh⟩ := hq
          refine kx_iinc_e (pc := 203) (v := nI (60 * r + (k + 1))) (lv' := [_, _, _, _, _, _, _, _, _, _]) (kx_dd d_Mo_give 118 rfl) rfl (Nat.le_of_ble_eq_true rfl) (nI_1 _) rfl ?_
          refine kx_goto (pc := 206) (tgt := 138) (kx_dd d_Mo_give 119 rfl) rfl ?_
          exact ih (k + 1) (by omega) _ h' (fun j q hj => by
            have hjl : j < (heF s p td).length := (List.getElem?_eq_some_iff.mp hj).1
            rw [(hfh.2.2 (60 * r + j) (by omega)).1, (hfh.2.2 (60 * r + j) (by omega)).2]
            exact hL j q hj) (by rw [hanK_s, if_pos hpos, hgd, ← hpu]; exact hqe) (hf.tr (hfh.mono (by omega)))
      · refine kx_iconst (pc := 174) (v := 1) (kx_dd d_Mo_give 101 rfl) rfl ?_
        refine kx_goto (pc := 175) (tgt := 179) (kx_dd d_Mo_give 102 rfl) rfl ?_
        refine kx_iadd (pc := 179) (kx_dd d_Mo_give 104 rfl) ?_
        rw [pk_sub (show 60 * r ≤ 60 * r + k by omega), show 60 * r + k - 60 * r = k by omega, nI_leI (by omega) (by omega)] at c171
        have e6 : shrP m (heF s p td) k = m * x.2 / sumP (heF s p td) (heF s p td).length + 1 := by
          unfold shrP
          rw [hgd, if_pos (by omega)]
        have e7 : ((nI m).toInt64 * (h2.1 150 (60 * r + k)).toInt64 / (nI (sumP (heF s p td) (heF s p td).length)).toInt64).toInt32 + 1 = nI (shrP m (heF s p td) k) := by
          rw [hxx.2, e3, e6]
          exact nI_add _ 1
        rw [e7]
        refine kx_istore_e (pc := 180) (lv' := [_, _, _, _, _, _, _, _, _, _]) (kx_dd d_Mo_give 105 rfl) (Nat.le_of_ble_eq_true rfl) rfl ?_
        refine kx_iload (pc := 182) (kx_dd d_Mo_give 106 rfl) rfl ?_
        refine kx_if_le (pc := 184) (tgt := 203) (kx_dd d_Mo_give 107 rfl) rfl (fun c184 => ?_) (fun c184 => ?_)
        · refine kx_iinc_e (pc := 203) (v := nI (60 * r + (k + 1))) (lv' := [_, _, _, _, _, _, _, _, _, _]) (kx_dd d_Mo_give 118 rfl) rfl (Nat.le_of_ble_eq_true rfl) (nI_1 _) rfl ?_
          refine kx_goto (pc := 206) (tgt := 138) (kx_dd d_Mo_give 119 rfl) rfl ?_
          rw [show (0 : Int32) = nI 0 from rfl, nI_leI (by omega) (by omega)] at c184
          exact ih (k + 1) (by omega) _ h2 hL (by rw [hanK_s, if_neg (by omega)]; exact hpu) hf
        · refine kx_aload_n (pc := 187) (kx_dd d_Mo_give 108 rfl) rfl rfl ?_
          refine kx_aload_n (pc := 188) (kx_dd d_Mo_give 109 rfl) rfl rfl ?_
          refine kx_getR (pc := 189) (b := 149) fl_Mo_406 (hm.k 0 rfl) rfl (hm.r 64 rfl) (kx_dd d_Mo_give 110 rfl) ?_
          refine kx_iload (pc := 192) (kx_dd d_Mo_give 111 rfl) rfl ?_
          refine kx_ialdn (pc := 194) (60 * r + k) (hm.t 65 rfl) rfl (by omega) (by decide) (kx_dd d_Mo_give 112 rfl) ?_
          refine kx_iload (pc := 195) (kx_dd d_Mo_give 113 rfl) rfl ?_
          refine kx_iload_n (pc := 197) (kx_dd d_Mo_give 114 rfl) rfl rfl ?_
          refine kx_iconst (pc := 198) (v := 1) (kx_dd d_Mo_give 115 rfl) rfl ?_
          refine kx_iadd (pc := 199) (kx_dd d_Mo_give 116 rfl) ?_
          rw [show (0 : Int32) = nI 0 from rfl, nI_leI (by omega) (by omega)] at c184
          have hpos : 0 < shrP m (heF s p td) k := by omega
          rw [hxx.1, show nI r + 1 = nI (r + 1) from nI_1 r]
          refine kx_invV (pc := 200) (a := 84) (as := [_, _, _]) (kx_dd d_Mo_give 117 rfl) ⟨lk_Mo_612, wi_Mo_give, we_Mo_give⟩ w_Mo_give (hm.k 0 rfl) rfl rfl rfl rfl (by decide) (IH h2 hm2 hp2 hc2 x.1 (shrP m (heF s p td) k) hxo.1 (by omega)) (Nat.le_refl _) ⟨Nat.le_refl _, Nat.le_refl _⟩ (fun v h' hq => ?_)
          obtain ⟨rfl, hqe, hfh⟩ := hq
          refine kx_iinc_e (pc := 203) (v := nI (60 * r + (k + 1))) (lv' := [_, _, _, _, _, _, _, _, _, _]) (kx_dd d_Mo_give 118 rfl) rfl (Nat.le_of_ble_eq_true rfl) (nI_1 _) rfl ?_
          refine kx_goto (pc := 206) (tgt := 138) (kx_dd d_Mo_give 119 rfl) rfl ?_
          exact ih (k + 1) (by omega) _ h' (fun j q hj => by
            have hjl : j < (heF s p td).length := (List.getElem?_eq_some_iff.mp hj).1
            rw [(hfh.2.2 (60 * r + j) (by omega)).1, (hfh.2.2 (60 * r + j) (by omega)).2]
            exact hL j q hj) (by rw [hanK_s, if_pos hpos, hgd, ← hpu]; exact hqe) (hf.tr (hfh.mono (by omega)))
theorem y_give {l : Launch} {g : kx_G} {d : Nat} (s : PS) (ho : PSok s) (td : Nat) (htd : td < 2 ^ 31) : ∀ n r, r + n = 3 → ∀ (h : kx_Mem), SM h → PSm s h → h.1 84 36 = nI td → ∀ (p m : Nat), p < s.1 → m + n + 1 < 2 ^ 31 → kx_Sp l g m_Mo_give [.ref 84, .int (nI p), .int (nI m), .int (nI r)] h (d + n + 2) 0 0 (fun v h' => v = none ∧ h'.1 116 = handF s td n p m (h.1 116) ∧ FM r h h') := by
  intro n
  induction n with
  | zero =>
    intro r hr h hm hp hc p m hp0 hmm
    have hr3 : r = 3 := by omega
    subst hr3
    have o2 := ho.1
    refine kx_enter_e (lv := [_, _, _, _, _, _, _, _, _, _]) (by decide +kernel) (Nat.le_of_ble_eq_true rfl) rfl ?_
    refine kx_iload_n (pc := 0) (kx_dd d_Mo_give 0 rfl) rfl rfl ?_
    refine kx_iconst (pc := 1) (v := 3) (kx_dd d_Mo_give 1 rfl) rfl ?_
    refine kx_icmp_ge (pc := 2) (tgt := 30) (kx_dd d_Mo_give 2 rfl) rfl (fun c2 => ?_) (fun c2 => ?_)
    · refine kx_iconst (pc := 30) (v := 0) (kx_dd d_Mo_give 16 rfl) rfl ?_
      refine kx_istore_e (pc := 31) (lv' := [_, _, _, _, _, _, _, _, _, _]) (kx_dd d_Mo_give 17 rfl) (Nat.le_of_ble_eq_true rfl) rfl ?_
      refine kx_iload (pc := 33) (kx_dd d_Mo_give 18 rfl) rfl ?_
      refine kx_if_ne (pc := 35) (tgt := 49) (kx_dd d_Mo_give 19 rfl) rfl (fun c35 => absurd c35 (by decide)) (fun _ => ?_)
      refine kx_aload_n (pc := 38) (kx_dd d_Mo_give 20 rfl) rfl rfl ?_
      refine kx_getR (pc := 39) (b := 116) fl_Mo_306 (hm.k 0 rfl) rfl (hm.r 31 rfl) (kx_dd d_Mo_give 21 rfl) ?_
      refine kx_iload_n (pc := 42) (kx_dd d_Mo_give 22 rfl) rfl rfl ?_
      refine kx_dup2 (pc := 43) (kx_dd d_Mo_give 23 rfl) rfl rfl ?_
      refine kx_ialdn (pc := 44) p (hm.t 32 rfl) rfl (by omega) (by decide) (kx_dd d_Mo_give 24 rfl) ?_
      refine kx_iload_n (pc := 45) (kx_dd d_Mo_give 25 rfl) rfl rfl ?_
      refine kx_iadd (pc := 46) (kx_dd d_Mo_give 26 rfl) ?_
      refine kx_iastn (pc := 47) p (hm.t 32 rfl) (by decide) rfl (by omega) (by decide) (kx_dd d_Mo_give 27 rfl) ?_
      refine kx_vret (pc := 48) rfl (kx_dd d_Mo_give 28 rfl) (Nat.le_refl _) (Nat.le_refl _) ?_
      exact ⟨rfl, (keepM (r := 3)).1, keepM.2⟩
    · exact absurd (by decide) c2
  | succ n IH =>
    intro r hr h hm hp hc p m hp0 hmm
    have o2 := ho.1
    have hr3 : r < 3 := by omega
    have IH1 := IH (r + 1) (by omega)
    have r3 : (60 : Int32) * nI r = nI (60 * r) := pk_mul 60 r
    refine kx_enter_e (lv := [_, _, _, _, _, _, _, _, _, _]) (by decide +kernel) (Nat.le_of_ble_eq_true rfl) rfl ?_
    refine kx_iload_n (pc := 0) (kx_dd d_Mo_give 0 rfl) rfl rfl ?_
    refine kx_iconst (pc := 1) (v := 3) (kx_dd d_Mo_give 1 rfl) rfl ?_
    refine kx_icmp_ge (pc := 2) (tgt := 30) (kx_dd d_Mo_give 2 rfl) rfl (fun c2 => ?_) (fun c2 => ?_)
    · exact absurd c2 (nI_ge (b := 3) hr3 (by decide))
    · refine kx_aload_n (pc := 5) (kx_dd d_Mo_give 3 rfl) rfl rfl ?_
      refine kx_iload_n (pc := 6) (kx_dd d_Mo_give 4 rfl) rfl rfl ?_
      refine kx_aload_n (pc := 7) (kx_dd d_Mo_give 5 rfl) rfl rfl ?_
      refine kx_getI (pc := 8) fl_Mo_426 (hm.k 0 rfl) rfl (kx_dd d_Mo_give 6 rfl) ?_
      refine kx_aload_n (pc := 11) (kx_dd d_Mo_give 7 rfl) rfl rfl ?_
      refine kx_getI (pc := 12) fl_Mo_426 (hm.k 0 rfl) rfl (kx_dd d_Mo_give 8 rfl) ?_
      rw [hc]
      refine kx_invV (pc := 15) (a := 84) (as := [_, _, _]) (kx_dd d_Mo_give 9 rfl) ⟨lk_Mo_458, wi_Mo_isDead, we_Mo_isDead⟩ w_Mo_isDead (hm.k 0 rfl) rfl rfl rfl rfl (by decide) (y_isDead (d := d + n + 1) hm s ho hp p td td (by omega) htd htd) (Nat.le_refl _) ⟨Nat.le_refl _, Nat.le_refl _⟩ (fun v h' hq => ?_)
      obtain ⟨rfl, he⟩ := hq
      rw [he]
      clear he
      refine kx_if_eq (pc := 18) (tgt := 30) (kx_dd d_Mo_give 10 rfl) rfl (fun c18 => ?_) (fun c18 => ?_)
      · refine kx_iconst (pc := 30) (v := 0) (kx_dd d_Mo_give 16 rfl) rfl ?_
        refine kx_istore_e (pc := 31) (lv' := [_, _, _, _, _, _, _, _, _, _]) (kx_dd d_Mo_give 17 rfl) (Nat.le_of_ble_eq_true rfl) rfl ?_
        refine kx_iload (pc := 33) (kx_dd d_Mo_give 18 rfl) rfl ?_
        refine kx_if_ne (pc := 35) (tgt := 49) (kx_dd d_Mo_give 19 rfl) rfl (fun c35 => absurd c35 (by decide)) (fun _ => ?_)
        refine kx_aload_n (pc := 38) (kx_dd d_Mo_give 20 rfl) rfl rfl ?_
        refine kx_getR (pc := 39) (b := 116) fl_Mo_306 (hm.k 0 rfl) rfl (hm.r 31 rfl) (kx_dd d_Mo_give 21 rfl) ?_
        refine kx_iload_n (pc := 42) (kx_dd d_Mo_give 22 rfl) rfl rfl ?_
        refine kx_dup2 (pc := 43) (kx_dd d_Mo_give 23 rfl) rfl rfl ?_
        refine kx_ialdn (pc := 44) p (hm.t 32 rfl) rfl (by omega) (by decide) (kx_dd d_Mo_give 24 rfl) ?_
        refine kx_iload_n (pc := 45) (kx_dd d_Mo_give 25 rfl) rfl rfl ?_
        refine kx_iadd (pc := 46) (kx_dd d_Mo_give 26 rfl) ?_
        refine kx_iastn (pc := 47) p (hm.t 32 rfl) (by decide) rfl (by omega) (by decide) (kx_dd d_Mo_give 27 rfl) ?_
        refine kx_vret (pc := 48) rfl (kx_dd d_Mo_give 28 rfl) (Nat.le_refl _) (Nat.le_refl _) ?_
        rw [bP_0] at c18
        have e1 : handF s td (n + 1) p m (h.1 116) = puAdd (h.1 116) p m := if_neg (fun z => c18 z.1)
        rw [e1]
        exact ⟨rfl, (keepM (r := r)).1, keepM.2⟩
      · refine kx_aload_n (pc := 21) (kx_dd d_Mo_give 11 rfl) rfl rfl ?_
        refine kx_iload_n (pc := 22) (kx_dd d_Mo_give 12 rfl) rfl rfl ?_
        refine kx_iload_n (pc := 23) (kx_dd d_Mo_give 13 rfl) rfl rfl ?_
        refine kx_invV (pc := 24) (a := 84) (as := [_, _]) (kx_dd d_Mo_give 14 rfl) ⟨lk_Mo_609, wi_Mo_listHeirs, we_Mo_listHeirs⟩ w_Mo_listHeirs (hm.k 0 rfl) rfl rfl rfl rfl (by decide) (y_listHeirs (d := d + n + 1) hm s ho hp p td r (by omega) htd hc hr3) (Nat.le_refl _) ⟨Nat.le_refl _, Nat.le_refl _⟩ (fun v h' hq => ?_)
        obtain ⟨rfl, hrw, hf, h16⟩ := hq
        have hm1 := hm.fp hf.fp
        have hp1 : PSm s h' := hp.fp hf.fp (by decide)
        have hc1 : h'.1 84 36 = nI td := by rw [hf.2.1 84 (by decide) (by decide) (by decide)]; exact hc
        have o4 : (heF s p td).length ≤ 60 := heK_len ho p td s.2.1 (Nat.le_refl _)
        have o5 : ∀ x ∈ heF s p td, x.1 < s.1 ∧ 1 ≤ x.2 ∧ x.2 ≤ 99 := (heK_ok ho p td s.2.1 (Nat.le_refl _)).2
        have o6 : ∀ x ∈ heF s p td, x.1 < 60 ∧ x.2 ≤ 99 := fun x hx => by have := o5 x hx; omega
        have o7 := sumP_b o6 (heF s p td).length
        have hm := hm1
        refine kx_goto (pc := 27) (tgt := 31) (kx_dd d_Mo_give 15 rfl) rfl ?_
        refine kx_istore_e (pc := 31) (lv' := [_, _, _, _, _, _, _, _, _, _]) (kx_dd d_Mo_give 17 rfl) (Nat.le_of_ble_eq_true rfl) rfl ?_
        refine kx_iload (pc := 33) (kx_dd d_Mo_give 18 rfl) rfl ?_
        refine kx_if_ne (pc := 35) (tgt := 49) (kx_dd d_Mo_give 19 rfl) rfl (fun c35 => ?_) (fun c35 => ?_)
        · refine kx_bipush (pc := 49) (v := 60) (kx_dd d_Mo_give 29 rfl) rfl ?_
          refine kx_iload_n (pc := 51) (kx_dd d_Mo_give 30 rfl) rfl rfl ?_
          refine kx_imul (pc := 52) (kx_dd d_Mo_give 31 rfl) ?_
          refine kx_istore_e (pc := 53) (lv' := [_, _, _, _, _, _, _, _, _, _]) (kx_dd d_Mo_give 32 rfl) (Nat.le_of_ble_eq_true rfl) rfl ?_
          rw [r3]
          refine kx_iconst (pc := 55) (v := 0) (kx_dd d_Mo_give 33 rfl) rfl ?_
          refine kx_istore_e (pc := 56) (lv' := [_, _, _, _, _, _, _, _, _, _]) (kx_dd d_Mo_give 34 rfl) (Nat.le_of_ble_eq_true rfl) rfl ?_
          refine kx_iload (pc := 58) (kx_dd d_Mo_give 35 rfl) rfl ?_
          refine kx_istore_e (pc := 60) (lv' := [_, _, _, _, _, _, _, _, _, _]) (kx_dd d_Mo_give 36 rfl) (Nat.le_of_ble_eq_true rfl) rfl ?_
          have hne : heF s p td ≠ [] := fun z => c35 (by rw [z]; rfl)
          have hW : 0 < sumP (heF s p td) (heF s p td).length := by
            rcases hL0 : heF s p td with _ | ⟨x, L⟩
            · exact absurd hL0 hne
            · rw [hL0] at o5
              have h1 : sumP (x :: L) 1 = 0 + x.2 := by simp [sumP]
              have h2 := sumP_mono (L := x :: L) (show 1 ≤ (x :: L).length by simp)
              have h3 := (o5 x List.mem_cons_self).2.1
              omega
          rw [bP_0, Classical.not_not] at c18
          have hdv := dv_ne hW (by omega)
          have e1 : handF s td (n + 1) p m (h.1 116) = hanK s td n m (heF s p td) (h.1 116) (heF s p td).length := if_pos ⟨c18, hne⟩
          rw [e1, ← h16]
          refine y_give_l1 hm p m r (by omega) hr3 (heF s p td) hrw o4 o6 none none ?_ (heF s p td).length 0 (by omega)
          refine kx_iload_n (pc := 90) (kx_dd d_Mo_give 51 rfl) rfl rfl ?_
          refine kx_istore_e (pc := 91) (lv' := [_, _, _, _, _, _, _, _, _, _]) (kx_dd d_Mo_give 52 rfl) (Nat.le_of_ble_eq_true rfl) rfl ?_
          refine kx_iload (pc := 93) (kx_dd d_Mo_give 53 rfl) rfl ?_
          refine kx_istore_e (pc := 95) (lv' := [_, _, _, _, _, _, _, _, _, _]) (kx_dd d_Mo_give 54 rfl) (Nat.le_of_ble_eq_true rfl) rfl ?_
          refine y_give_l2 hm p m r (by omega) hr3 (heF s p td) hrw o4 o6 none none hW (by omega) hdv ?_ (heF s p td).length 0 (by omega)
          refine kx_iload (pc := 134) (kx_dd d_Mo_give 77 rfl) rfl ?_
          refine kx_istore_e (pc := 136) (lv' := [_, _, _, _, _, _, _, _, _, _]) (kx_dd d_Mo_give 78 rfl) (Nat.le_of_ble_eq_true rfl) rfl ?_
          refine kx_mono ?_ (y_give_l3 s ho td htd n r hr IH1 hm1 hp1 hc1 p m hmm hW (heF s p td).length 0 (by omega) _ h' hrw rfl FM.rf)
          intro v h2 z
          exact ⟨z.1, z.2.1, hf.tr z.2.2⟩
        · refine kx_aload_n (pc := 38) (kx_dd d_Mo_give 20 rfl) rfl rfl ?_
          refine kx_getR (pc := 39) (b := 116) fl_Mo_306 (hm.k 0 rfl) rfl (hm.r 31 rfl) (kx_dd d_Mo_give 21 rfl) ?_
          refine kx_iload_n (pc := 42) (kx_dd d_Mo_give 22 rfl) rfl rfl ?_
          refine kx_dup2 (pc := 43) (kx_dd d_Mo_give 23 rfl) rfl rfl ?_
          refine kx_ialdn (pc := 44) p (hm.t 32 rfl) rfl (by omega) (by decide) (kx_dd d_Mo_give 24 rfl) ?_
          refine kx_iload_n (pc := 45) (kx_dd d_Mo_give 25 rfl) rfl rfl ?_
          refine kx_iadd (pc := 46) (kx_dd d_Mo_give 26 rfl) ?_
          refine kx_iastn (pc := 47) p (hm.t 32 rfl) (by decide) rfl (by omega) (by decide) (kx_dd d_Mo_give 27 rfl) ?_
          refine kx_vret (pc := 48) rfl (kx_dd d_Mo_give 28 rfl) (Nat.le_refl _) (Nat.le_refl _) ?_
          have hz : heF s p td = [] := by
            rw [show (0 : Int32) = nI 0 from rfl, nI_eq (by omega) (by decide)] at c35
            exact List.eq_nil_of_length_eq_zero c35
          have e1 : handF s td (n + 1) p m (h.1 116) = puAdd (h.1 116) p m := if_neg (fun z => z.2 hz)
          rw [e1, ← h16]
          exact ⟨rfl, (keepM (r := r)).1, hf.tr keepM.2⟩
