/-! the class: People, purses and lots -/
theorem nI_dec (i : Int32) : i < 0 ∨ ∃ k : Nat, k < 2 ^ 31 ∧ i = nI k := by
  rcases Classical.em (i < 0) with h | h
  · exact Or.inl h
  · exact Or.inr (nI_of h)
/-- what heirOn answers of a row of heirs -/
def heAns (L : List (Nat × Nat)) (i what : Int32) : Int32 := if i < 0 then -1 else match L[i.toNatClampNeg]? with
  | none => -1
  | some q => if what = 0 then nI q.1 else if what = 1 then nI q.2 else -1
theorem x_Pe_heirDetail {l : Launch} {g : kx_G} {d : Nat} {h : kx_Mem} (hs : SC h) (s : PS) (ho : PSok s) (hp : PSc s h) (p kn : Nat) (i wh : Int32) (hpp : p < 2 ^ 31) (hkn : kn < 2 ^ 31) : kx_Sp l g m_Pe_heirDetail [.ref 14, .int (nI p), .int (nI kn), .int i, .int wh] h (d + 2) 0 0 (fun v h' => v = some (.int (heAns (heF s p kn) i wh)) ∧ kx_Fr [23, 27] h h') := by
  have o4 := heK_len ho p kn s.2.1 (Nat.le_refl _)
  have o4 : (heF s p kn).length ≤ 60 := o4
  refine kx_enter_e (lv := [_, _, _, _, _, _]) (by decide +kernel) (Nat.le_of_ble_eq_true rfl) rfl ?_
  refine kx_aload_n (pc := 0) (kx_dd d_Pe_heirDetail 0 rfl) rfl rfl ?_
  refine kx_iload_n (pc := 1) (kx_dd d_Pe_heirDetail 1 rfl) rfl rfl ?_
  refine kx_iload_n (pc := 2) (kx_dd d_Pe_heirDetail 2 rfl) rfl rfl ?_
  refine kx_iconst (pc := 3) (v := 0) (kx_dd d_Pe_heirDetail 3 rfl) rfl ?_
  refine kx_invV (pc := 4) (a := 14) (as := [_, _, _]) (kx_dd d_Pe_heirDetail 4 rfl) ⟨lk_Pe_57, wi_Pe_listHeirs, we_Pe_listHeirs⟩ w_Pe_listHeirs (hs.k 14 rfl) rfl rfl rfl rfl (by decide) (x_Pe_listHeirs (d := d) hs s ho hp p kn 0 hpp hkn (by decide)) (Nat.le_refl _) ⟨Nat.le_refl _, Nat.le_refl _⟩ (fun v h' hq => ?_)
  obtain ⟨rfl, hrw, hf⟩ := hq
  have hs := hs.fr hf
  refine kx_istore_e (pc := 7) (lv' := [_, _, _, _, _, _]) (kx_dd d_Pe_heirDetail 5 rfl) (Nat.le_of_ble_eq_true rfl) rfl ?_
  refine kx_iload_n (pc := 9) (kx_dd d_Pe_heirDetail 6 rfl) rfl rfl ?_
  refine kx_if_lt (pc := 10) (tgt := 19) (kx_dd d_Pe_heirDetail 7 rfl) rfl (fun c10 => ?_) (fun c10 => ?_)
  · refine kx_iconst (pc := 19) (v := -1) (kx_dd d_Pe_heirDetail 11 rfl) rfl ?_
    refine kx_iret (pc := 20) rfl (kx_dd d_Pe_heirDetail 12 rfl) (Nat.le_refl _) (Nat.le_refl _) ?_
    refine ⟨?_, hf⟩
    unfold heAns
    rw [if_pos c10]
  · refine kx_iload_n (pc := 13) (kx_dd d_Pe_heirDetail 8 rfl) rfl rfl ?_
    refine kx_iload (pc := 14) (kx_dd d_Pe_heirDetail 9 rfl) rfl ?_
    refine kx_icmp_lt (pc := 16) (tgt := 21) (kx_dd d_Pe_heirDetail 10 rfl) rfl (fun c16 => ?_) (fun c16 => ?_)
    · obtain ⟨k, hk, rfl⟩ : ∃ k : Nat, k < 2 ^ 31 ∧ i = nI k := nI_of c10
      rw [nI_ltI hk (by omega)] at c16
      obtain ⟨x, hx⟩ : ∃ x, (heF s p kn)[k]? = some x := ⟨_, List.getElem?_eq_getElem c16⟩
      have hxx := hrw k x hx
      refine kx_iload (pc := 21) (kx_dd d_Pe_heirDetail 13 rfl) rfl ?_
      by_cases e23_0 : wh = 0
      · refine kx_lookup (pc := 23) (tgt := 48) (kx_dd d_Pe_heirDetail 14 rfl) (by decide) (by rw [e23_0] <;> rfl) rfl ?_
        refine kx_aload_n (pc := 48) (kx_dd d_Pe_heirDetail 15 rfl) rfl rfl ?_
        refine kx_getR (pc := 49) (b := 22) fl_Pe_36 (hs.k 14 rfl) rfl (hs.r 26 rfl) (kx_dd d_Pe_heirDetail 16 rfl) ?_
        refine kx_iconst (pc := 52) (v := 0) (kx_dd d_Pe_heirDetail 17 rfl) rfl ?_
        refine kx_aldn (pc := 53) (b := 23) 0 (hs.t 22 rfl) (by decide) rfl (by decide) (by decide) (hs.r 28 rfl) (kx_dd d_Pe_heirDetail 18 rfl) ?_
        refine kx_iload_n (pc := 54) (kx_dd d_Pe_heirDetail 19 rfl) rfl rfl ?_
        refine kx_ialdn (pc := 55) k (hs.t 23 rfl) rfl (by omega) (by decide) (kx_dd d_Pe_heirDetail 20 rfl) ?_
        refine kx_iret (pc := 56) rfl (kx_dd d_Pe_heirDetail 21 rfl) (Nat.le_refl _) (Nat.le_refl _) ?_
        refine ⟨?_, hf⟩
        unfold heAns
        rw [if_neg c10, nI_clamp hk, hx]
        show _ = some (Value.int (if wh = 0 then nI x.1 else if wh = 1 then nI x.2 else -1))
        rw [if_pos e23_0, hxx.1]
      · skip
        by_cases e23_1 : wh = 1
        · refine kx_lookup (pc := 23) (tgt := 57) (kx_dd d_Pe_heirDetail 14 rfl) (by decide) (by rw [e23_1] <;> rfl) rfl ?_
          refine kx_aload_n (pc := 57) (kx_dd d_Pe_heirDetail 22 rfl) rfl rfl ?_
          refine kx_getR (pc := 58) (b := 26) fl_Pe_39 (hs.k 14 rfl) rfl (hs.r 27 rfl) (kx_dd d_Pe_heirDetail 23 rfl) ?_
          refine kx_iconst (pc := 61) (v := 0) (kx_dd d_Pe_heirDetail 24 rfl) rfl ?_
          refine kx_aldn (pc := 62) (b := 27) 0 (hs.t 26 rfl) (by decide) rfl (by decide) (by decide) (hs.r 31 rfl) (kx_dd d_Pe_heirDetail 25 rfl) ?_
          refine kx_iload_n (pc := 63) (kx_dd d_Pe_heirDetail 26 rfl) rfl rfl ?_
          refine kx_ialdn (pc := 64) k (hs.t 27 rfl) rfl (by omega) (by decide) (kx_dd d_Pe_heirDetail 27 rfl) ?_
          refine kx_iret (pc := 65) rfl (kx_dd d_Pe_heirDetail 28 rfl) (Nat.le_refl _) (Nat.le_refl _) ?_
          refine ⟨?_, hf⟩
          unfold heAns
          rw [if_neg c10, nI_clamp hk, hx]
          show _ = some (Value.int (if wh = 0 then nI x.1 else if wh = 1 then nI x.2 else -1))
          rw [if_neg e23_0, if_pos e23_1, hxx.2]
        · skip
          refine kx_lookup (pc := 23) (tgt := 66) (kx_dd d_Pe_heirDetail 14 rfl) (by decide) ((lv_osw e23_0 (by decide)).trans ((lv_osw e23_1 (by decide)).trans rfl)) rfl ?_
          refine kx_iconst (pc := 66) (v := -1) (kx_dd d_Pe_heirDetail 29 rfl) rfl ?_
          refine kx_iret (pc := 67) rfl (kx_dd d_Pe_heirDetail 30 rfl) (Nat.le_refl _) (Nat.le_refl _) ?_
          refine ⟨?_, hf⟩
          unfold heAns
          rw [if_neg c10, nI_clamp hk, hx]
          show _ = some (Value.int (if wh = 0 then nI x.1 else if wh = 1 then nI x.2 else -1))
          rw [if_neg e23_0, if_neg e23_1]
    · refine kx_iconst (pc := 19) (v := -1) (kx_dd d_Pe_heirDetail 11 rfl) rfl ?_
      refine kx_iret (pc := 20) rfl (kx_dd d_Pe_heirDetail 12 rfl) (Nat.le_refl _) (Nat.le_refl _) ?_
      refine ⟨?_, hf⟩
      unfold heAns
      rw [if_neg c10]
      rcases nI_dec i with z | ⟨k, hk, rfl⟩
      · exact absurd z c10
      · rw [nI_ltI hk (by omega)] at c16
        rw [nI_clamp hk, List.getElem?_eq_none (by omega)]
theorem has_in {h : kx_Mem} {s : PS} (hp : PSc s h) (ho : PSok s) {i : Int32} (hc : bP (0 ≤ i ∧ i < h.1 14 0) ≠ 0) : ∃ k : Nat, k < s.1 ∧ k < 60 ∧ i = nI k := by
  have h1 : 0 ≤ i ∧ i < h.1 14 0 := by
    rcases Classical.em (0 ≤ i ∧ i < h.1 14 0) with z | z
    · exact z
    · exact absurd (bP_f z) hc
  obtain ⟨k, hk, rfl⟩ := nI_of (Int32.not_lt.mpr h1.1)
  have h2 := h1.2
  have := ho.1
  rw [hp.1, nI_ltI hk (by omega)] at h2
  exact ⟨k, h2, by omega, rfl⟩
theorem has_out {h : kx_Mem} {s : PS} (hp : PSc s h) (ho : PSok s) {k : Nat} (hk : k < s.1) : bP (0 ≤ nI k ∧ nI k < h.1 14 0) = 1 := by
  have := ho.1
  exact bP_t ⟨nI_pos' (by omega), by rw [hp.1]; exact nI_lt hk (by omega)⟩
theorem x_Pe_purseOf {l : Launch} {g : kx_G} {d : Nat} {h : kx_Mem} (hs : SC h) (s : PS) (ho : PSok s) (hp : PSc s h) (i : Int32) : kx_Sp l g m_Pe_purseOf [.ref 14, .int i] h (d + 1) 0 0 (fun v h' => v = some (.int (if 0 ≤ i ∧ i < h.1 14 0 then h.1 16 i.toNatClampNeg else 0)) ∧ h' = h) := by
  refine kx_enter_e (lv := [_, _]) (by decide +kernel) (Nat.le_of_ble_eq_true rfl) rfl ?_
  refine kx_aload_n (pc := 0) (kx_dd d_Pe_purseOf 0 rfl) rfl rfl ?_
  refine kx_iload_n (pc := 1) (kx_dd d_Pe_purseOf 1 rfl) rfl rfl ?_
  refine kx_invV (pc := 2) (a := 14) (as := [_]) (kx_dd d_Pe_purseOf 2 rfl) ⟨lk_Pe_78, wi_Pe_has, we_Pe_has⟩ w_Pe_has (hs.k 14 rfl) rfl rfl rfl rfl (by decide) (x_Pe_has (d := d) hs i) (Nat.le_refl _) ⟨Nat.le_refl _, Nat.le_refl _⟩ (fun v h' hq => ?_)
  obtain ⟨rfl, he⟩ := hq
  rw [he]
  clear he
  refine kx_if_eq (pc := 5) (tgt := 17) (kx_dd d_Pe_purseOf 3 rfl) rfl (fun c5 => ?_) (fun c5 => ?_)
  · refine kx_iconst (pc := 17) (v := 0) (kx_dd d_Pe_purseOf 9 rfl) rfl ?_
    refine kx_iret (pc := 18) rfl (kx_dd d_Pe_purseOf 10 rfl) (Nat.le_refl _) (Nat.le_refl _) ?_
    rw [bP_0] at c5
    exact ⟨by rw [if_neg c5], rfl⟩
  · obtain ⟨k, hk1, hk2, rfl⟩ := has_in hp ho c5
    have hz := has_out hp ho hk1
    rw [bP_1] at hz
    refine kx_aload_n (pc := 8) (kx_dd d_Pe_purseOf 4 rfl) rfl rfl ?_
    refine kx_getR (pc := 9) (b := 16) fl_Pe_15 (hs.k 14 rfl) rfl (hs.r 20 rfl) (kx_dd d_Pe_purseOf 5 rfl) ?_
    refine kx_iload_n (pc := 12) (kx_dd d_Pe_purseOf 6 rfl) rfl rfl ?_
    refine kx_ialdn (pc := 13) k (hs.t 16 rfl) rfl (by omega) (by decide) (kx_dd d_Pe_purseOf 7 rfl) ?_
    refine kx_goto (pc := 14) (tgt := 18) (kx_dd d_Pe_purseOf 8 rfl) rfl ?_
    refine kx_iret (pc := 18) rfl (kx_dd d_Pe_purseOf 10 rfl) (Nat.le_refl _) (Nat.le_refl _) ?_
    exact ⟨by rw [if_pos hz, nI_clamp (by omega)], rfl⟩
theorem x_Pe_enlist {l : Launch} {g : kx_G} {d : Nat} {h : kx_Mem} (hs : SC h) (s : PS) (ho : PSok s) (hp : PSc s h) (i : Int32) (is : Prop) : kx_Sp l g m_Pe_enlist [.ref 14, .int i, .int (bP is)] h (d + 1) 0 0 (fun v h' => v = some (.int (bP ((0 ≤ i ∧ i < h.1 14 0) ∧ ¬ h.1 15 i.toNatClampNeg = bP is))) ∧ h' = (@ite _ ((0 ≤ i ∧ i < h.1 14 0) ∧ ¬ h.1 15 i.toNatClampNeg = bP is) (Classical.propDecidable _) (kx_setI h 15 i.toNatClampNeg (bP is)) h)) := by
  refine kx_enter_e (lv := [_, _, _]) (by decide +kernel) (Nat.le_of_ble_eq_true rfl) rfl ?_
  refine kx_aload_n (pc := 0) (kx_dd d_Pe_enlist 0 rfl) rfl rfl ?_
  refine kx_iload_n (pc := 1) (kx_dd d_Pe_enlist 1 rfl) rfl rfl ?_
  refine kx_invV (pc := 2) (a := 14) (as := [_]) (kx_dd d_Pe_enlist 2 rfl) ⟨lk_Pe_78, wi_Pe_has, we_Pe_has⟩ w_Pe_has (hs.k 14 rfl) rfl rfl rfl rfl (by decide) (x_Pe_has (d := d) hs i) (Nat.le_refl _) ⟨Nat.le_refl _, Nat.le_refl _⟩ (fun v h' hq => ?_)
  obtain ⟨rfl, he⟩ := hq
  rw [he]
  clear he
  refine kx_if_eq (pc := 5) (tgt := 18) (kx_dd d_Pe_enlist 3 rfl) rfl (fun c5 => ?_) (fun c5 => ?_)
  · refine kx_iconst (pc := 18) (v := 0) (kx_dd d_Pe_enlist 10 rfl) rfl ?_
    refine kx_zret (pc := 19) rfl rfl (kx_dd d_Pe_enlist 11 rfl) (Nat.le_refl _) (Nat.le_refl _) ?_
    rw [bP_0] at c5
    exact ⟨by rw [bP_f (fun z => c5 z.1)], by rw [if_neg (fun z => c5 z.1)]⟩
  · obtain ⟨k, hk1, hk2, rfl⟩ := has_in hp ho c5
    have hz := has_out hp ho hk1
    rw [bP_1] at hz
    refine kx_aload_n (pc := 8) (kx_dd d_Pe_enlist 4 rfl) rfl rfl ?_
    refine kx_getR (pc := 9) (b := 15) fl_Pe_11 (hs.k 14 rfl) rfl (hs.r 19 rfl) (kx_dd d_Pe_enlist 5 rfl) ?_
    refine kx_iload_n (pc := 12) (kx_dd d_Pe_enlist 6 rfl) rfl rfl ?_
    refine kx_zaldn (pc := 13) k (hs.t 15 rfl) rfl (by omega) (by decide) (kx_dd d_Pe_enlist 7 rfl) ?_
    refine kx_iload_n (pc := 14) (kx_dd d_Pe_enlist 8 rfl) rfl rfl ?_
    refine kx_icmp_ne (pc := 15) (tgt := 20) (kx_dd d_Pe_enlist 9 rfl) rfl (fun c15 => ?_) (fun c15 => ?_)
    · refine kx_aload_n (pc := 20) (kx_dd d_Pe_enlist 12 rfl) rfl rfl ?_
      refine kx_getR (pc := 21) (b := 15) fl_Pe_11 (hs.k 14 rfl) rfl (hs.r 19 rfl) (kx_dd d_Pe_enlist 13 rfl) ?_
      refine kx_iload_n (pc := 24) (kx_dd d_Pe_enlist 14 rfl) rfl rfl ?_
      refine kx_iload_n (pc := 25) (kx_dd d_Pe_enlist 15 rfl) rfl rfl ?_
      refine kx_zastn (pc := 26) k (hs.t 15 rfl) (by decide) rfl (by omega) (by decide) (kx_dd d_Pe_enlist 16 rfl) ?_
      refine kx_iconst (pc := 27) (v := 1) (kx_dd d_Pe_enlist 17 rfl) rfl ?_
      refine kx_zret (pc := 28) rfl rfl (kx_dd d_Pe_enlist 18 rfl) (Nat.le_refl _) (Nat.le_refl _) ?_
      rw [nI_clamp (show k < 2 ^ 31 by omega)]
      refine ⟨by rw [bP_t ⟨hz, c15⟩], ?_⟩
      rw [if_pos ⟨hz, c15⟩]
      congr 1
      rcases Classical.em is with z | z
      · rw [bP_t z]; rfl
      · rw [bP_f z]; rfl
    · refine kx_iconst (pc := 18) (v := 0) (kx_dd d_Pe_enlist 10 rfl) rfl ?_
      refine kx_zret (pc := 19) rfl rfl (kx_dd d_Pe_enlist 11 rfl) (Nat.le_refl _) (Nat.le_refl _) ?_
      rw [nI_clamp (show k < 2 ^ 31 by omega)]
      exact ⟨by rw [bP_f (fun z => z.2 c15)], by rw [if_neg (fun z => z.2 c15)]⟩
/-- may one be drawn today -/
def lotP (s : PS) (U : Nat → Prop) (a b td q : Nat) : Prop := U q ∧ ¬ deadP s q td td ∧ natF s q td td ≠ a ∧ natF s q td td ≠ b
theorem x_Pe_isForLot {l : Launch} {g : kx_G} {d : Nat} {h : kx_Mem} (hs : SC h) (s : PS) (ho : PSok s) (hp : PSc s h) (U : Nat → Prop) (hU : ∀ q, q < 60 → h.1 15 q = bP (U q)) (a b td : Nat) (haa : a ≤ 3) (hbb : b ≤ 3) (htd : td < 2 ^ 31) (q : Nat) (hq0 : q < s.1) : kx_Sp l g m_Pe_isForLot [.ref 14, .int (nI q), .int (nI a), .int (nI b), .int (nI td)] h (d + 2) 0 0 (fun v h' => v = some (.int (bP (lotP s U a b td q))) ∧ h' = h) := by
  have o2 := ho.1
  have o5 := natF_le ho (p := q) (day := td) (kn := td)
  refine kx_enter_e (lv := [_, _, _, _, _, _]) (by decide +kernel) (Nat.le_of_ble_eq_true rfl) rfl ?_
  refine kx_aload_n (pc := 0) (kx_dd d_Pe_isForLot 0 rfl) rfl rfl ?_
  refine kx_iload_n (pc := 1) (kx_dd d_Pe_isForLot 1 rfl) rfl rfl ?_
  refine kx_invV (pc := 2) (a := 14) (as := [_]) (kx_dd d_Pe_isForLot 2 rfl) ⟨lk_Pe_78, wi_Pe_has, we_Pe_has⟩ w_Pe_has (hs.k 14 rfl) rfl rfl rfl rfl (by decide) (x_Pe_has (d := d + 1) hs (nI q)) (Nat.le_refl _) ⟨Nat.le_refl _, Nat.le_refl _⟩ (fun v h' hq => ?_)
  obtain ⟨rfl, he⟩ := hq
  rw [he, has_out hp ho hq0]
  clear he
  refine kx_if_eq (pc := 5) (tgt := 29) (kx_dd d_Pe_isForLot 3 rfl) rfl (fun c5 => absurd c5 (by decide)) (fun _ => ?_)
  refine kx_aload_n (pc := 8) (kx_dd d_Pe_isForLot 4 rfl) rfl rfl ?_
  refine kx_getR (pc := 9) (b := 15) fl_Pe_11 (hs.k 14 rfl) rfl (hs.r 19 rfl) (kx_dd d_Pe_isForLot 5 rfl) ?_
  refine kx_iload_n (pc := 12) (kx_dd d_Pe_isForLot 6 rfl) rfl rfl ?_
  refine kx_zaldn (pc := 13) q (hs.t 15 rfl) rfl (by omega) (by decide) (kx_dd d_Pe_isForLot 7 rfl) ?_
  refine kx_if_eq (pc := 14) (tgt := 29) (kx_dd d_Pe_isForLot 8 rfl) rfl (fun c14 => ?_) (fun c14 => ?_)
  · refine kx_iconst (pc := 29) (v := 0) (kx_dd d_Pe_isForLot 15 rfl) rfl ?_
    refine kx_zret (pc := 30) rfl rfl (kx_dd d_Pe_isForLot 16 rfl) (Nat.le_refl _) (Nat.le_refl _) ?_
    rw [hU q (by omega), bP_0] at c14
    exact ⟨by rw [bP_f (fun z => c14 z.1)], rfl⟩
  · refine kx_aload_n (pc := 17) (kx_dd d_Pe_isForLot 9 rfl) rfl rfl ?_
    refine kx_iload_n (pc := 18) (kx_dd d_Pe_isForLot 10 rfl) rfl rfl ?_
    refine kx_iload (pc := 19) (kx_dd d_Pe_isForLot 11 rfl) rfl ?_
    refine kx_iload (pc := 21) (kx_dd d_Pe_isForLot 12 rfl) rfl ?_
    refine kx_invV (pc := 23) (a := 14) (as := [_, _, _]) (kx_dd d_Pe_isForLot 13 rfl) ⟨lk_Pe_70, wi_Pe_isDead, we_Pe_isDead⟩ w_Pe_isDead (hs.k 14 rfl) rfl rfl rfl rfl (by decide) (x_Pe_isDead (d := d) hs s ho hp q td td (by omega) htd htd) (Nat.le_refl _) ⟨Nat.le_refl _, Nat.le_refl _⟩ (fun v h' hq => ?_)
    obtain ⟨rfl, he⟩ := hq
    rw [he]
    clear he
    refine kx_if_eq (pc := 26) (tgt := 31) (kx_dd d_Pe_isForLot 14 rfl) rfl (fun c26 => ?_) (fun c26 => ?_)
    · refine kx_aload_n (pc := 31) (kx_dd d_Pe_isForLot 17 rfl) rfl rfl ?_
      refine kx_iload_n (pc := 32) (kx_dd d_Pe_isForLot 18 rfl) rfl rfl ?_
      refine kx_iload (pc := 33) (kx_dd d_Pe_isForLot 19 rfl) rfl ?_
      refine kx_iload (pc := 35) (kx_dd d_Pe_isForLot 20 rfl) rfl ?_
      refine kx_invV (pc := 37) (a := 14) (as := [_, _, _]) (kx_dd d_Pe_isForLot 21 rfl) ⟨lk_Pe_53, wi_Pe_nationFor, we_Pe_nationFor⟩ w_Pe_nationFor (hs.k 14 rfl) rfl rfl rfl rfl (by decide) (x_Pe_nationFor (d := d) hs s ho hp q td td (by omega) htd htd) (Nat.le_refl _) ⟨Nat.le_refl _, Nat.le_refl _⟩ (fun v h' hq => ?_)
      obtain ⟨rfl, he⟩ := hq
      rw [he]
      clear he
      refine kx_istore_e (pc := 40) (lv' := [_, _, _, _, _, _]) (kx_dd d_Pe_isForLot 22 rfl) (Nat.le_of_ble_eq_true rfl) rfl ?_
      refine kx_iload (pc := 42) (kx_dd d_Pe_isForLot 23 rfl) rfl ?_
      refine kx_iload_n (pc := 44) (kx_dd d_Pe_isForLot 24 rfl) rfl rfl ?_
      refine kx_icmp_eq (pc := 45) (tgt := 58) (kx_dd d_Pe_isForLot 25 rfl) rfl (fun c45 => ?_) (fun c45 => ?_)
      · refine kx_iconst (pc := 58) (v := 0) (kx_dd d_Pe_isForLot 31 rfl) rfl ?_
        refine kx_zret (pc := 59) rfl rfl (kx_dd d_Pe_isForLot 32 rfl) (Nat.le_refl _) (Nat.le_refl _) ?_
        rw [nI_eq (by omega) (by omega)] at c45
        exact ⟨by rw [bP_f (fun z => z.2.2.1 c45)], rfl⟩
      · refine kx_iload (pc := 48) (kx_dd d_Pe_isForLot 26 rfl) rfl ?_
        refine kx_iload_n (pc := 50) (kx_dd d_Pe_isForLot 27 rfl) rfl rfl ?_
        refine kx_icmp_eq (pc := 51) (tgt := 58) (kx_dd d_Pe_isForLot 28 rfl) rfl (fun c51 => ?_) (fun c51 => ?_)
        · refine kx_iconst (pc := 58) (v := 0) (kx_dd d_Pe_isForLot 31 rfl) rfl ?_
          refine kx_zret (pc := 59) rfl rfl (kx_dd d_Pe_isForLot 32 rfl) (Nat.le_refl _) (Nat.le_refl _) ?_
          rw [nI_eq (by omega) (by omega)] at c51
          exact ⟨by rw [bP_f (fun z => z.2.2.2 c51)], rfl⟩
        · refine kx_iconst (pc := 54) (v := 1) (kx_dd d_Pe_isForLot 29 rfl) rfl ?_
          refine kx_goto (pc := 55) (tgt := 59) (kx_dd d_Pe_isForLot 30 rfl) rfl ?_
          refine kx_zret (pc := 59) rfl rfl (kx_dd d_Pe_isForLot 32 rfl) (Nat.le_refl _) (Nat.le_refl _) ?_
          rw [hU q (by omega), bP_0, Classical.not_not] at c14
          rw [bP_0] at c26
          rw [nI_eq (by omega) (by omega)] at c45 c51
          exact ⟨by rw [bP_t ⟨c14, c26, c45, c51⟩], rfl⟩
    · refine kx_iconst (pc := 29) (v := 0) (kx_dd d_Pe_isForLot 15 rfl) rfl ?_
      refine kx_zret (pc := 30) rfl rfl (kx_dd d_Pe_isForLot 16 rfl) (Nat.le_refl _) (Nat.le_refl _) ?_
      rw [bP_0, Classical.not_not] at c26
      exact ⟨by rw [bP_f (fun z => z.2.1 c26)], rfl⟩
noncomputable def lotK (s : PS) (U : Nat → Prop) (a b td : Nat) : Nat → Nat
  | 0 => 0
  | k + 1 => @ite _ (lotP s U a b td k) (Classical.propDecidable _) (lotK s U a b td k + 1) (lotK s U a b td k)
theorem lotK_le {s : PS} {U : Nat → Prop} {a b td : Nat} : ∀ k, lotK s U a b td k ≤ k
  | 0 => Nat.le_refl _
  | k + 1 => by
    have := lotK_le (s := s) (U := U) (a := a) (b := b) (td := td) k
    unfold lotK
    split <;> omega
theorem x_Pe_countForLot_loop {l : Launch} {g : kx_G} {d : Nat} {h : kx_Mem} (hs : SC h) (s : PS) (ho : PSok s) (hp : PSc s h) (U : Nat → Prop) (hU : ∀ q, q < 60 → h.1 15 q = bP (U q)) (a b td : Nat) (haa : a ≤ 3) (hbb : b ≤ 3) (htd : td < 2 ^ 31) : ∀ n k, k + n = s.1 →  kx_X (l, g, m_Pe_countForLot, d + 3, 0, 0, (fun v h' => v = some (.int (nI (lotK s U a b td s.1))) ∧ h' = h)) 0 0 6 [some (.ref 14), some (.int (nI a)), some (.int (nI b)), some (.int (nI td)), some (.int (nI (lotK s U a b td k))), some (.int (nI k))] [] (h) := by
  intro n
  induction n with
  | zero =>
    intro k hk 
    have hk0 : k = s.1 := by omega
    subst hk0
    refine kx_iload (pc := 6) (kx_dd d_Pe_countForLot 4 rfl) rfl ?_
    refine kx_aload_n (pc := 8) (kx_dd d_Pe_countForLot 5 rfl) rfl rfl ?_
    refine kx_getI (pc := 9) fl_Pe_42 (hs.k 14 rfl) rfl (kx_dd d_Pe_countForLot 6 rfl) ?_
    refine kx_icmp_ge (pc := 12) (tgt := 36) (kx_dd d_Pe_countForLot 7 rfl) rfl (fun c12 => ?_) (fun c12 => ?_)
    · refine kx_iload (pc := 36) (kx_dd d_Pe_countForLot 18 rfl) rfl ?_
      refine kx_iret (pc := 38) rfl (kx_dd d_Pe_countForLot 19 rfl) (Nat.le_refl _) (Nat.le_refl _) ?_
      exact ⟨rfl, rfl⟩
    · exact absurd (by rw [hp.1]; exact Int32.le_refl _) c12
  | succ n ih =>
    intro k hk 
    have o2 := ho.1
    refine kx_iload (pc := 6) (kx_dd d_Pe_countForLot 4 rfl) rfl ?_
    refine kx_aload_n (pc := 8) (kx_dd d_Pe_countForLot 5 rfl) rfl rfl ?_
    refine kx_getI (pc := 9) fl_Pe_42 (hs.k 14 rfl) rfl (kx_dd d_Pe_countForLot 6 rfl) ?_
    refine kx_icmp_ge (pc := 12) (tgt := 36) (kx_dd d_Pe_countForLot 7 rfl) rfl (fun c12 => ?_) (fun c12 => ?_)
    · exact absurd c12 (by rw [hp.1]; exact nI_ge (by omega) (by omega))
    · refine kx_aload_n (pc := 15) (kx_dd d_Pe_countForLot 8 rfl) rfl rfl ?_
      refine kx_iload (pc := 16) (kx_dd d_Pe_countForLot 9 rfl) rfl ?_
      refine kx_iload_n (pc := 18) (kx_dd d_Pe_countForLot 10 rfl) rfl rfl ?_
      refine kx_iload_n (pc := 19) (kx_dd d_Pe_countForLot 11 rfl) rfl rfl ?_
      refine kx_iload_n (pc := 20) (kx_dd d_Pe_countForLot 12 rfl) rfl rfl ?_
      refine kx_invV (pc := 21) (a := 14) (as := [_, _, _, _]) (kx_dd d_Pe_countForLot 13 rfl) ⟨lk_Pe_82, wi_Pe_isForLot, we_Pe_isForLot⟩ w_Pe_isForLot (hs.k 14 rfl) rfl rfl rfl rfl (by decide) (x_Pe_isForLot (d := d) hs s ho hp U hU a b td haa hbb htd k (by omega)) (Nat.le_refl _) ⟨Nat.le_refl _, Nat.le_refl _⟩ (fun v h' hq => ?_)
      obtain ⟨rfl, he⟩ := hq
      rw [he]
      clear he
      refine kx_if_eq (pc := 24) (tgt := 30) (kx_dd d_Pe_countForLot 14 rfl) rfl (fun c24 => ?_) (fun c24 => ?_)
      · refine kx_iinc_e (pc := 30) (v := nI (k + 1)) (lv' := [_, _, _, _, _, _]) (kx_dd d_Pe_countForLot 16 rfl) rfl (Nat.le_of_ble_eq_true rfl) (nI_1 k) rfl ?_
        refine kx_goto (pc := 33) (tgt := 6) (kx_dd d_Pe_countForLot 17 rfl) rfl ?_
        rw [bP_0] at c24
        have e1 : lotK s U a b td (k + 1) = lotK s U a b td k := if_neg c24
        have ih1 := ih (k + 1) (by omega)
        rw [e1] at ih1
        exact ih1
      · refine kx_iinc_e (pc := 27) (v := nI (lotK s U a b td k + 1)) (lv' := [_, _, _, _, _, _]) (kx_dd d_Pe_countForLot 15 rfl) rfl (Nat.le_of_ble_eq_true rfl) (nI_1 _) rfl ?_
        refine kx_iinc_e (pc := 30) (v := nI (k + 1)) (lv' := [_, _, _, _, _, _]) (kx_dd d_Pe_countForLot 16 rfl) rfl (Nat.le_of_ble_eq_true rfl) (nI_1 k) rfl ?_
        refine kx_goto (pc := 33) (tgt := 6) (kx_dd d_Pe_countForLot 17 rfl) rfl ?_
        rw [bP_0, Classical.not_not] at c24
        have e1 : lotK s U a b td (k + 1) = lotK s U a b td k + 1 := if_pos c24
        have ih1 := ih (k + 1) (by omega)
        rw [e1] at ih1
        exact ih1
theorem x_Pe_countForLot {l : Launch} {g : kx_G} {d : Nat} {h : kx_Mem} (hs : SC h) (s : PS) (ho : PSok s) (hp : PSc s h) (U : Nat → Prop) (hU : ∀ q, q < 60 → h.1 15 q = bP (U q)) (a b td : Nat) (haa : a ≤ 3) (hbb : b ≤ 3) (htd : td < 2 ^ 31) : kx_Sp l g m_Pe_countForLot [.ref 14, .int (nI a), .int (nI b), .int (nI td)] h (d + 3) 0 0 (fun v h' => v = some (.int (nI (lotK s U a b td s.1))) ∧ h' = h) := by
  refine kx_enter_e (lv := [_, _, _, _, _, _]) (by decide +kernel) (Nat.le_of_ble_eq_true rfl) rfl ?_
  refine kx_iconst (pc := 0) (v := 0) (kx_dd d_Pe_countForLot 0 rfl) rfl ?_
  refine kx_istore_e (pc := 1) (lv' := [_, _, _, _, _, _]) (kx_dd d_Pe_countForLot 1 rfl) (Nat.le_of_ble_eq_true rfl) rfl ?_
  refine kx_iconst (pc := 3) (v := 0) (kx_dd d_Pe_countForLot 2 rfl) rfl ?_
  refine kx_istore_e (pc := 4) (lv' := [_, _, _, _, _, _]) (kx_dd d_Pe_countForLot 3 rfl) (Nat.le_of_ble_eq_true rfl) rfl ?_
  exact x_Pe_countForLot_loop hs s ho hp U hU a b td haa hbb htd s.1 0 (by omega)
/-- the one at a number among those who may be drawn -/
def drawnQ (s : PS) (U : Nat → Prop) (a b td : Nat) (nm r : Int32) : Prop := (∃ q, q < s.1 ∧ lotP s U a b td q ∧ nI (lotK s U a b td q) = nm ∧ r = nI q) ∨ ((∀ q, q < s.1 → lotP s U a b td q → ¬ nI (lotK s U a b td q) = nm) ∧ r = -1)
theorem x_Pe_drawnBy_loop {l : Launch} {g : kx_G} {d : Nat} {h : kx_Mem} (hs : SC h) (s : PS) (ho : PSok s) (hp : PSc s h) (U : Nat → Prop) (hU : ∀ q, q < 60 → h.1 15 q = bP (U q)) (a b td : Nat) (haa : a ≤ 3) (hbb : b ≤ 3) (htd : td < 2 ^ 31) (nm : Int32) : ∀ n k, k + n = s.1 → (∀ j, j < k → lotP s U a b td j → ¬ nI (lotK s U a b td j) = nm) → kx_X (l, g, m_Pe_drawnBy, d + 3, 0, 0, (fun v h' => ∃ r : Int32, v = some (.int r) ∧ drawnQ s U a b td nm r ∧ h' = h)) 0 0 6 [some (.ref 14), some (.int nm), some (.int (nI a)), some (.int (nI b)), some (.int (nI td)), some (.int (nI (lotK s U a b td k))), some (.int (nI k))] [] (h) := by
  intro n
  induction n with
  | zero =>
    intro k hk hj0
    have hk0 : k = s.1 := by omega
    subst hk0
    refine kx_iload (pc := 6) (kx_dd d_Pe_drawnBy 4 rfl) rfl ?_
    refine kx_aload_n (pc := 8) (kx_dd d_Pe_drawnBy 5 rfl) rfl rfl ?_
    refine kx_getI (pc := 9) fl_Pe_42 (hs.k 14 rfl) rfl (kx_dd d_Pe_drawnBy 6 rfl) ?_
    refine kx_icmp_ge (pc := 12) (tgt := 46) (kx_dd d_Pe_drawnBy 7 rfl) rfl (fun c12 => ?_) (fun c12 => ?_)
    · refine kx_iconst (pc := 46) (v := -1) (kx_dd d_Pe_drawnBy 23 rfl) rfl ?_
      refine kx_iret (pc := 47) rfl (kx_dd d_Pe_drawnBy 24 rfl) (Nat.le_refl _) (Nat.le_refl _) ?_
      exact ⟨_, rfl, Or.inr ⟨fun q hq => hj0 q hq, rfl⟩, rfl⟩
    · exact absurd (by rw [hp.1]; exact Int32.le_refl _) c12
  | succ n ih =>
    intro k hk hj0
    have o2 := ho.1
    refine kx_iload (pc := 6) (kx_dd d_Pe_drawnBy 4 rfl) rfl ?_
    refine kx_aload_n (pc := 8) (kx_dd d_Pe_drawnBy 5 rfl) rfl rfl ?_
    refine kx_getI (pc := 9) fl_Pe_42 (hs.k 14 rfl) rfl (kx_dd d_Pe_drawnBy 6 rfl) ?_
    refine kx_icmp_ge (pc := 12) (tgt := 46) (kx_dd d_Pe_drawnBy 7 rfl) rfl (fun c12 => ?_) (fun c12 => ?_)
    · exact absurd c12 (by rw [hp.1]; exact nI_ge (by omega) (by omega))
    · refine kx_aload_n (pc := 15) (kx_dd d_Pe_drawnBy 8 rfl) rfl rfl ?_
      refine kx_iload (pc := 16) (kx_dd d_Pe_drawnBy 9 rfl) rfl ?_
      refine kx_iload_n (pc := 18) (kx_dd d_Pe_drawnBy 10 rfl) rfl rfl ?_
      refine kx_iload_n (pc := 19) (kx_dd d_Pe_drawnBy 11 rfl) rfl rfl ?_
      refine kx_iload (pc := 20) (kx_dd d_Pe_drawnBy 12 rfl) rfl ?_
      refine kx_invV (pc := 22) (a := 14) (as := [_, _, _, _]) (kx_dd d_Pe_drawnBy 13 rfl) ⟨lk_Pe_82, wi_Pe_isForLot, we_Pe_isForLot⟩ w_Pe_isForLot (hs.k 14 rfl) rfl rfl rfl rfl (by decide) (x_Pe_isForLot (d := d) hs s ho hp U hU a b td haa hbb htd k (by omega)) (Nat.le_refl _) ⟨Nat.le_refl _, Nat.le_refl _⟩ (fun v h' hq => ?_)
      obtain ⟨rfl, he⟩ := hq
      rw [he]
      clear he
      refine kx_if_eq (pc := 25) (tgt := 40) (kx_dd d_Pe_drawnBy 14 rfl) rfl (fun c25 => ?_) (fun c25 => ?_)
      · refine kx_iinc_e (pc := 40) (v := nI (k + 1)) (lv' := [_, _, _, _, _, _, _]) (kx_dd d_Pe_drawnBy 21 rfl) rfl (Nat.le_of_ble_eq_true rfl) (nI_1 k) rfl ?_
        refine kx_goto (pc := 43) (tgt := 6) (kx_dd d_Pe_drawnBy 22 rfl) rfl ?_
        rw [bP_0] at c25
        have e1 : lotK s U a b td (k + 1) = lotK s U a b td k := if_neg c25
        have ih1 := ih (k + 1) (by omega) (fun j hj z => by
          rcases Nat.lt_succ_iff_lt_or_eq.mp hj with h1 | rfl
          · exact hj0 j h1 z
          · exact absurd z c25)
        rw [e1] at ih1
        exact ih1
      · refine kx_iload (pc := 28) (kx_dd d_Pe_drawnBy 15 rfl) rfl ?_
        refine kx_iload_n (pc := 30) (kx_dd d_Pe_drawnBy 16 rfl) rfl rfl ?_
        refine kx_icmp_ne (pc := 31) (tgt := 37) (kx_dd d_Pe_drawnBy 17 rfl) rfl (fun c31 => ?_) (fun c31 => ?_)
        · refine kx_iinc_e (pc := 37) (v := nI (lotK s U a b td k + 1)) (lv' := [_, _, _, _, _, _, _]) (kx_dd d_Pe_drawnBy 20 rfl) rfl (Nat.le_of_ble_eq_true rfl) (nI_1 _) rfl ?_
          refine kx_iinc_e (pc := 40) (v := nI (k + 1)) (lv' := [_, _, _, _, _, _, _]) (kx_dd d_Pe_drawnBy 21 rfl) rfl (Nat.le_of_ble_eq_true rfl) (nI_1 k) rfl ?_
          refine kx_goto (pc := 43) (tgt := 6) (kx_dd d_Pe_drawnBy 22 rfl) rfl ?_
          rw [bP_0, Classical.not_not] at c25
          have e1 : lotK s U a b td (k + 1) = lotK s U a b td k + 1 := if_pos c25
          have ih1 := ih (k + 1) (by omega) (fun j hj z => by
            rcases Nat.lt_succ_iff_lt_or_eq.mp hj with h1 | rfl
            · exact hj0 j h1 z
            · exact c31)
          rw [e1] at ih1
          exact ih1
        · refine kx_iload (pc := 34) (kx_dd d_Pe_drawnBy 18 rfl) rfl ?_
          refine kx_iret (pc := 36) rfl (kx_dd d_Pe_drawnBy 19 rfl) (Nat.le_refl _) (Nat.le_refl _) ?_
          rw [bP_0, Classical.not_not] at c25
          exact ⟨_, rfl, Or.inl ⟨k, by omega, c25, c31, rfl⟩, rfl⟩
theorem x_Pe_drawnBy {l : Launch} {g : kx_G} {d : Nat} {h : kx_Mem} (hs : SC h) (s : PS) (ho : PSok s) (hp : PSc s h) (U : Nat → Prop) (hU : ∀ q, q < 60 → h.1 15 q = bP (U q)) (a b td : Nat) (haa : a ≤ 3) (hbb : b ≤ 3) (htd : td < 2 ^ 31) (nm : Int32) : kx_Sp l g m_Pe_drawnBy [.ref 14, .int nm, .int (nI a), .int (nI b), .int (nI td)] h (d + 3) 0 0 (fun v h' => ∃ r : Int32, v = some (.int r) ∧ drawnQ s U a b td nm r ∧ h' = h) := by
  refine kx_enter_e (lv := [_, _, _, _, _, _, _]) (by decide +kernel) (Nat.le_of_ble_eq_true rfl) rfl ?_
  refine kx_iconst (pc := 0) (v := 0) (kx_dd d_Pe_drawnBy 0 rfl) rfl ?_
  refine kx_istore_e (pc := 1) (lv' := [_, _, _, _, _, _, _]) (kx_dd d_Pe_drawnBy 1 rfl) (Nat.le_of_ble_eq_true rfl) rfl ?_
  refine kx_iconst (pc := 3) (v := 0) (kx_dd d_Pe_drawnBy 2 rfl) rfl ?_
  refine kx_istore_e (pc := 4) (lv' := [_, _, _, _, _, _, _]) (kx_dd d_Pe_drawnBy 3 rfl) (Nat.le_of_ble_eq_true rfl) rfl ?_
  exact x_Pe_drawnBy_loop hs s ho hp U hU a b td haa hbb htd nm s.1 0 (by omega) (fun j hj => absurd hj (Nat.not_lt_zero j))
theorem x_Pe_keep {l : Launch} {g : kx_G} {d : Nat} {h : kx_Mem} (hs : SC h) (s : PS) (ho : PSok s) (hp : PSc s h) (q : Nat) (hq0 : q < s.1) (m : Int32) : kx_Sp l g m_Pe_keep [.ref 14, .int (nI q), .int m] h (d + 1) 0 0 (fun v h' => v = none ∧ h' = kx_setI h 16 q (h.1 16 q + m)) := by
  have o2 := ho.1
  refine kx_enter_e (lv := [_, _, _]) (by decide +kernel) (Nat.le_of_ble_eq_true rfl) rfl ?_
  refine kx_aload_n (pc := 0) (kx_dd d_Pe_keep 0 rfl) rfl rfl ?_
  refine kx_iload_n (pc := 1) (kx_dd d_Pe_keep 1 rfl) rfl rfl ?_
  refine kx_invV (pc := 2) (a := 14) (as := [_]) (kx_dd d_Pe_keep 2 rfl) ⟨lk_Pe_78, wi_Pe_has, we_Pe_has⟩ w_Pe_has (hs.k 14 rfl) rfl rfl rfl rfl (by decide) (x_Pe_has (d := d) hs (nI q)) (Nat.le_refl _) ⟨Nat.le_refl _, Nat.le_refl _⟩ (fun v h' hq => ?_)
  obtain ⟨rfl, he⟩ := hq
  rw [he, has_out hp ho hq0]
  clear he
  refine kx_if_eq (pc := 5) (tgt := 18) (kx_dd d_Pe_keep 3 rfl) rfl (fun c5 => absurd c5 (by decide)) (fun _ => ?_)
  refine kx_aload_n (pc := 8) (kx_dd d_Pe_keep 4 rfl) rfl rfl ?_
  refine kx_getR (pc := 9) (b := 16) fl_Pe_15 (hs.k 14 rfl) rfl (hs.r 20 rfl) (kx_dd d_Pe_keep 5 rfl) ?_
  refine kx_iload_n (pc := 12) (kx_dd d_Pe_keep 6 rfl) rfl rfl ?_
  refine kx_dup2 (pc := 13) (kx_dd d_Pe_keep 7 rfl) rfl rfl ?_
  refine kx_ialdn (pc := 14) q (hs.t 16 rfl) rfl (by omega) (by decide) (kx_dd d_Pe_keep 8 rfl) ?_
  refine kx_iload_n (pc := 15) (kx_dd d_Pe_keep 9 rfl) rfl rfl ?_
  refine kx_iadd (pc := 16) (kx_dd d_Pe_keep 10 rfl) ?_
  refine kx_iastn (pc := 17) q (hs.t 16 rfl) (by decide) rfl (by omega) (by decide) (kx_dd d_Pe_keep 11 rfl) ?_
  refine kx_vret (pc := 18) rfl (kx_dd d_Pe_keep 12 rfl) (Nat.le_refl _) (Nat.le_refl _) ?_
  exact ⟨rfl, rfl⟩
