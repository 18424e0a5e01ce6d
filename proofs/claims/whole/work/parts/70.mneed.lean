/-! the reference: oneWord, need, kind, rule, fault, force -/
def FrW (a j : Nat) : Prop := a = 85 ∨ a = 86 ∨ (a = 84 ∧ (j = 2 ∨ (5 ≤ j ∧ j ≤ 10)))
def FrV (a j : Nat) : Prop := a = 85 ∨ a = 86 ∨ (a = 84 ∧ (j = 2 ∨ (7 ≤ j ∧ j ≤ 10)))
def WDm (nw : Nat) (T : Nat → Nat) (z : Nat) (h : kx_Mem) : Prop := WTok nw T ∧ WTm nw T h ∧ wz nw T ≤ z
def OWq (b : Nat → Int32) (n nw : Nat) (T : Nat → Nat) (z : Nat) (h : kx_Mem) (v : Option Value) (h' : kx_Mem) : Prop := ∃ nw' T', WEx nw T nw' T' ∧ WDm nw' T' (z + 1) h' ∧ kx_Fc FrV h h' ∧ ((oneW b n = 0 ∧ v = some (.int (-1))) ∨ ∃ j, j < nw' ∧ T' j = oneW b n ∧ 0 < oneW b n ∧ v = some (.int (nI j)))
theorem WDm.nw {nw : Nat} {T : Nat → Nat} {z : Nat} {h : kx_Mem} (hw : WDm nw T z h) (hz : z < 1960) : nw < 2000 := by
  have := wz_cap hw.1
  have := hw.2.2
  omega
theorem FsV {h h' : kx_Mem} (hf : kx_Fs h h') : kx_Fc FrV h h' := hf.mono (fun a j q => by unfold FsM at q; unfold FrV; omega)
theorem y_wordT {l : Launch} {g : kx_G} {d : Nat} {h : kx_Mem} (hm : SM h) (b : Nat → Int32) (n i nw : Nat) (T : Nat → Nat) (z : Nat) (ht : TapM b n h) (hby : BY b) (hw : WDm nw T z h) (hz : z < 1960) (hi : i ≤ n) (c : tK b n i = 1) : kx_Sp l g m_Mo_wordOf [.ref 84, .int (nI (tP b n i)), .int (nI (tE b n i))] h d 0 0 (fun v h' => ∃ j, v = some (.int (nI j)) ∧ j < (waF nw T (tW b n i)).1 ∧ (waF nw T (tW b n i)).2 j = tW b n i ∧ WTm (waF nw T (tW b n i)).1 (waF nw T (tW b n i)).2 h' ∧ kx_Fc Fw h h') := by
  have h1 := tK1 hi c
  have k := y_wordOf (l := l) (g := g) (d := d) hm b n ht hby nw T hw.1 hw.2.1 (hw.nw hz) (tP b n i) (tE b n i - tP b n i) (by omega) h1.2.2.1 (by omega) h1.2.2.2.1
  rw [show tP b n i + (tE b n i - tP b n i) = tE b n i by omega] at k
  exact k
theorem y_oneWord {l : Launch} {g : kx_G} {d : Nat} {h : kx_Mem} (hm : SM h) (b : Nat → Int32) (n nw : Nat) (T : Nat → Nat) (z : Nat) (ht : TapM b n h) (hby : BY b) (h8 : h.1 84 8 = nI 0) (hw : WDm nw T z h) (hz : z < 1960) : kx_Sp l g m_Mo_oneWord [.ref 84] h (d + 2) 0 0 (fun v h' => OWq b n nw T z h v h') := by
  refine kx_enter_e (lv := [_, _, _]) (by decide +kernel) (Nat.le_of_ble_eq_true rfl) rfl ?_
  refine kx_aload_n (pc := 0) (kx_dd d_Mo_oneWord 0 rfl) rfl rfl ?_
  refine kx_invV (pc := 1) (a := 84) (as := []) (kx_dd d_Mo_oneWord 1 rfl) ⟨lk_Mo_77, wi_Mo_scan, we_Mo_scan⟩ w_Mo_scan (hm.k 0 rfl) rfl rfl rfl rfl (Nat.le_of_ble_eq_true rfl) (y_scan (d := d) hm b n 0 ht hby (Nat.zero_le _) h8) (Nat.le_refl _) ⟨Nat.le_refl _, Nat.le_refl _⟩ (fun v h' hq => ?_)
  revert h'
  intro h1 hq
  obtain ⟨rfl, hto, hf1⟩ := hq
  have hm : SM h1 := hm.fc hf1
  obtain ⟨k1, k2, k3, k4⟩ := id hto
  have hki := tK_le (b := b) (n := n) (i := 0)
  have ht1 : TapM b n h1 := ht.fc hf1 (by simp [FsM]) (by simp [FsM])
  have hin := (tE_n (b := b) (Nat.zero_le n)).1
  refine kx_aload_n (pc := 4) (kx_dd d_Mo_oneWord 2 rfl) rfl rfl ?_
  refine kx_getI (pc := 5) fl_Mo_50 (hm.k 0 rfl) rfl (kx_dd d_Mo_oneWord 3 rfl) ?_
  refine kx_iconst (pc := 8) (v := 1) (kx_dd d_Mo_oneWord 4 rfl) rfl ?_
  refine kx_icmp_eq (pc := 9) (tgt := 14) (kx_dd d_Mo_oneWord 5 rfl) rfl (fun c9 => ?_) (fun c9 => ?_)
  · rw [k2, show (1 : Int32) = nI 1 from rfl, nI_eq (by omega) (by decide)] at c9
    refine kx_aload_n (pc := 14) (kx_dd d_Mo_oneWord 8 rfl) rfl rfl ?_
    refine kx_getI (pc := 15) fl_Mo_27 (hm.k 0 rfl) rfl (kx_dd d_Mo_oneWord 9 rfl) ?_
    refine kx_istore_ne (pc := 18) (lv' := [_, _, _]) (kx_dd d_Mo_oneWord 10 rfl) rfl (Nat.le_of_ble_eq_true rfl) rfl ?_
    refine kx_aload_n (pc := 19) (kx_dd d_Mo_oneWord 11 rfl) rfl rfl ?_
    refine kx_getI (pc := 20) fl_Mo_43 (hm.k 0 rfl) rfl (kx_dd d_Mo_oneWord 12 rfl) ?_
    refine kx_istore_ne (pc := 23) (lv' := [_, _, _]) (kx_dd d_Mo_oneWord 13 rfl) rfl (Nat.le_of_ble_eq_true rfl) rfl ?_
    refine kx_aload_n (pc := 24) (kx_dd d_Mo_oneWord 14 rfl) rfl rfl ?_
    refine kx_invV (pc := 25) (a := 84) (as := []) (kx_dd d_Mo_oneWord 15 rfl) ⟨lk_Mo_77, wi_Mo_scan, we_Mo_scan⟩ w_Mo_scan (hm.k 0 rfl) rfl rfl rfl rfl (Nat.le_of_ble_eq_true rfl) (y_scan (d := d) hm b n (tE b n 0) ht1 hby hin k1) (Nat.le_refl _) ⟨Nat.le_refl _, Nat.le_refl _⟩ (fun v h' hq => ?_)
    revert h'
    intro h2 hq
    obtain ⟨rfl, hto2, hf2⟩ := hq
    have hm : SM h2 := hm.fc hf2
    obtain ⟨l1, l2, l3, l4⟩ := id hto2
    have hki2 := tK_le (b := b) (n := n) (i := tE b n 0)
    have ht2 : TapM b n h2 := ht1.fc hf2 (by simp [FsM]) (by simp [FsM])
    have hf12 := (FsV hf1).tr (FsV hf2)
    have hw2 : WDm nw T z h2 := ⟨hw.1, (hw.2.1.fc hf1 (by simp [FsM]) (by simp [FsM])).fc hf2 (by simp [FsM]) (by simp [FsM]), hw.2.2⟩
    refine kx_aload_n (pc := 28) (kx_dd d_Mo_oneWord 16 rfl) rfl rfl ?_
    refine kx_getI (pc := 29) fl_Mo_50 (hm.k 0 rfl) rfl (kx_dd d_Mo_oneWord 17 rfl) ?_
    refine kx_if_ne (pc := 32) (tgt := 44) (kx_dd d_Mo_oneWord 18 rfl) rfl (fun c32 => ?_) (fun c32 => ?_)
    · refine kx_iconst (pc := 44) (v := -1) (kx_dd d_Mo_oneWord 24 rfl) rfl ?_
      refine kx_iret (pc := 45) rfl (kx_dd d_Mo_oneWord 25 rfl) (Nat.le_refl _) (Nat.le_refl _) ?_
      rw [l2, show (0 : Int32) = nI 0 from rfl, nI_eq (by omega) (by decide)] at c32
      exact ⟨nw, T, WEx.rf, ⟨hw2.1, hw2.2.1, Nat.le_succ_of_le hw2.2.2⟩, hf12, Or.inl ⟨if_neg (fun x => c32 x.2), rfl⟩⟩
    · rw [l2, show (0 : Int32) = nI 0 from rfl, nI_eq (by omega) (by decide)] at c32
      refine kx_aload_n (pc := 35) (kx_dd d_Mo_oneWord 19 rfl) rfl rfl ?_
      refine kx_iload_n (pc := 36) (kx_dd d_Mo_oneWord 20 rfl) rfl rfl ?_
      refine kx_iload_n (pc := 37) (kx_dd d_Mo_oneWord 21 rfl) rfl rfl ?_
      refine kx_invV (pc := 38) (a := 84) (as := [_, _]) (kx_dd d_Mo_oneWord 22 rfl) ⟨lk_Mo_81, wi_Mo_wordOf, we_Mo_wordOf⟩ w_Mo_wordOf (hm.k 0 rfl) rfl rfl rfl rfl (Nat.le_of_ble_eq_true rfl) ((by rw [k3, k1]; exact y_wordT (d := d + 1) hm b n 0 nw T z ht2 hby hw2 hz (Nat.zero_le _) c9)) (Nat.le_refl _) ⟨Nat.le_refl _, Nat.le_refl _⟩ (fun v h' hq => ?_)
      revert h'
      intro h3 hq
      obtain ⟨j9, rfl, hj1, hj2, hwm, hfw⟩ := hq
      refine kx_goto (pc := 41) (tgt := 45) (kx_dd d_Mo_oneWord 23 rfl) rfl ?_
      refine kx_iret (pc := 45) rfl (kx_dd d_Mo_oneWord 25 rfl) (Nat.le_refl _) (Nat.le_refl _) ?_
      have e1 : oneW b n = tW b n 0 := if_pos ⟨c9, c32⟩
      have hwl := tW_lt (Nat.zero_le n) c9
      have hz3 := waF_wz (n := nw) (T := T) (c := tW b n 0)
      have hb3 := bgw_le (tW b n 0)
      have hw22 := hw2.2.2
      exact ⟨_, _, waF_ex, ⟨waF_ok hw2.1 (hw2.nw hz) hwl.1 hwl.2, hwm, by omega⟩, hf12.tr (hfw.mono (fun a j q => by unfold Fw at q; unfold FrV; omega)), Or.inr ⟨j9, hj1, by rw [e1]; exact hj2, by rw [e1]; exact hwl.1, rfl⟩⟩
  · refine kx_iconst (pc := 12) (v := -1) (kx_dd d_Mo_oneWord 6 rfl) rfl ?_
    refine kx_iret (pc := 13) rfl (kx_dd d_Mo_oneWord 7 rfl) (Nat.le_refl _) (Nat.le_refl _) ?_
    rw [k2, show (1 : Int32) = nI 1 from rfl, nI_eq (by omega) (by decide)] at c9
    exact ⟨nw, T, WEx.rf, ⟨hw.1, hw.2.1.fc hf1 (by simp [FsM]) (by simp [FsM]), Nat.le_succ_of_le hw.2.2⟩, FsV hf1, Or.inl ⟨if_neg (fun x => c9 x.1), rfl⟩⟩
def PoW (A : RU → Nat → Int32) (b : Nat → Int32) (n nw : Nat) (T : Nat → Nat) (z : Nat) (V : Nat → RU) (q : Int32) (h : kx_Mem) (v : Option Value) (h' : kx_Mem) : Prop :=
  ∃ nw' T', WEx nw T nw' T' ∧ WDm nw' T' (z + 1) h' ∧ kx_Fc FrW h h' ∧ h'.1 84 5 = 0 ∧ (∀ u, u < 4 → RUm (V u) u nw' T' h') ∧ ((¬ vrs q ∧ v = some (.int (-2))) ∨ ∃ v9, v9 < 4 ∧ q = nI v9 ∧ ((oneW b n = 0 ∧ v = some (.int (-1))) ∨ (0 < oneW b n ∧ v = some (.int (A (V v9) (oneW b n))))))
theorem y_need {l : Launch} {g : kx_G} {d : Nat} {h : kx_Mem} (b : Nat → Int32) (n nw : Nat) (T : Nat → Nat) (z : Nat) (V : Nat → RU) (hP : RPm b n nw T z V h) (hz : z < 1960) (q : Int32) : kx_Sp l g m_Mo_need [.ref 84, .int q] h (d + 3) 0 0 (fun v h' => PoW (fun r w => nI (nedF r w)) b n nw T z V q h v h') := by
  obtain ⟨hm, hby, ⟨e5, hn6, hbb⟩, hwd, hV, hN2⟩ := id hP
  refine kx_enter_e (lv := [_, _, _]) (by decide +kernel) (Nat.le_of_ble_eq_true rfl) rfl ?_
  refine kx_aload_n (pc := 0) (kx_dd d_Mo_need 0 rfl) rfl rfl ?_
  refine kx_invV (pc := 1) (a := 84) (as := []) (kx_dd d_Mo_need 1 rfl) ⟨lk_Mo_236, wi_Mo_open, we_Mo_open⟩ w_Mo_open (hm.k 0 rfl) rfl rfl rfl rfl (Nat.le_of_ble_eq_true rfl) (y_open (d := d + 2) hm) (Nat.le_refl _) ⟨Nat.le_refl _, Nat.le_refl _⟩ (fun v h' hq => ?_)
  revert h'
  intro h1 hq
  obtain ⟨rfl, he1⟩ := hq
  have hf1 : kx_Fc (fun a j => a = 84 ∧ (j = 5 ∨ j = 6 ∨ j = 8)) h h1 := by rw [he1]; exact ((kx_Fc.set ⟨rfl, by omega⟩).tr (kx_Fc.set ⟨rfl, by omega⟩)).tr (kx_Fc.set ⟨rfl, by omega⟩)
  have e6 : h1.1 84 6 = nI n := by rw [he1, setI_ne (Or.inr (by decide)), setI_ne (Or.inr (by decide)), setI_at]; exact e5
  have e5b : h1.1 84 5 = 0 := by rw [he1, setI_ne (Or.inr (by decide)), setI_at]
  have e8 : h1.1 84 8 = nI 0 := by rw [he1, setI_at]; rfl
  clear he1
  have hm : SM h1 := hm.fc hf1
  refine kx_iload_n (pc := 4) (kx_dd d_Mo_need 2 rfl) rfl rfl ?_
  refine kx_invS (pc := 5) (as := [_]) (kx_dd d_Mo_need 3 rfl) ⟨lk_Mo_239, wt_Mo_isVersion⟩ w_Mo_isVersion rfl rfl (Nat.le_of_ble_eq_true rfl) (y_isVersion (d := d + 1) q) (Nat.le_refl _) ⟨Nat.le_refl _, Nat.le_refl _⟩ (fun v h' hq => ?_)
  obtain ⟨rfl, he⟩ := hq
  rw [he]
  clear he
  refine kx_if_ne (pc := 8) (tgt := 14) (kx_dd d_Mo_need 4 rfl) rfl (fun c8 => ?_) (fun c8 => ?_)
  · have c8 : vrs q := Classical.not_not.mp (fun x => c8 (bP_0.mpr x))
    obtain ⟨v9, hv9, rfl⟩ := vrs_n c8
    have ht1 : TapM b n h1 := ⟨e6, hn6, fun k hk => by rw [hf1.2 88 k (by omega)]; exact hbb k hk⟩
    have hw1 : WDm nw T z h1 := ⟨hwd.1, hwd.2.1.fc hf1 (by omega) (fun j => ⟨by omega, by omega⟩), hwd.2.2⟩
    refine kx_aload_n (pc := 14) (kx_dd d_Mo_need 7 rfl) rfl rfl ?_
    refine kx_invV (pc := 15) (a := 84) (as := []) (kx_dd d_Mo_need 8 rfl) ⟨lk_Mo_264, wi_Mo_oneWord, we_Mo_oneWord⟩ w_Mo_oneWord (hm.k 0 rfl) rfl rfl rfl rfl (Nat.le_of_ble_eq_true rfl) (y_oneWord (d := d) hm b n nw T z ht1 hby e8 hw1 hz) (Nat.le_refl _) ⟨Nat.le_refl _, Nat.le_refl _⟩ (fun v h' hq => ?_)
    revert h'
    intro h3 hq
    obtain ⟨nw3, T3, hx3, hw3, hf3, hor⟩ := hq
    have hm : SM h3 := hm.fc hf3
    have hV3 : ∀ u, u < 4 → RUok (V u) ∧ RUm (V u) u nw3 T3 h3 := fun u hu => ⟨(hV u hu).1, (((hV u hu).2.fm hf1 (fun a j q1 q2 => by omega)).ex hx3).fm hf3 (fun a j q1 q2 => by unfold FrV; omega)⟩
    have hF : kx_Fc FrW h h3 := (hf1.mono (fun a j q => by unfold FrW; omega)).tr (hf3.mono (fun a j q => by unfold FrV at q; unfold FrW; omega))
    have e53 : h3.1 84 5 = 0 := (hf3.2 84 5 (by unfold FrV; omega)).trans e5b
    rcases hor with ⟨o1, rfl⟩ | ⟨j, j1, j2, j3, rfl⟩
    · refine kx_istore_ne (pc := 18) (lv' := [_, _, _]) (kx_dd d_Mo_need 9 rfl) rfl (Nat.le_of_ble_eq_true rfl) rfl ?_
      refine kx_iload_n (pc := 19) (kx_dd d_Mo_need 10 rfl) rfl rfl ?_
      refine kx_iconst (pc := 20) (v := -1) (kx_dd d_Mo_need 11 rfl) rfl ?_
      refine kx_icmp_ne (pc := 21) (tgt := 28) (kx_dd d_Mo_need 12 rfl) rfl (fun c21 => ?_) (fun c21 => ?_)
      · exact absurd rfl c21
      · refine kx_iconst (pc := 24) (v := -1) (kx_dd d_Mo_need 13 rfl) rfl ?_
        refine kx_goto (pc := 25) (tgt := 34) (kx_dd d_Mo_need 14 rfl) rfl ?_
        refine kx_iret (pc := 34) rfl (kx_dd d_Mo_need 19 rfl) (Nat.le_refl _) (Nat.le_refl _) ?_
        exact ⟨nw3, T3, hx3, hw3, hF, e53, fun u hu => (hV3 u hu).2, Or.inr ⟨v9, hv9, rfl, Or.inl ⟨o1, rfl⟩⟩⟩
    · refine kx_istore_ne (pc := 18) (lv' := [_, _, _]) (kx_dd d_Mo_need 9 rfl) rfl (Nat.le_of_ble_eq_true rfl) rfl ?_
      refine kx_iload_n (pc := 19) (kx_dd d_Mo_need 10 rfl) rfl rfl ?_
      refine kx_iconst (pc := 20) (v := -1) (kx_dd d_Mo_need 11 rfl) rfl ?_
      refine kx_icmp_ne (pc := 21) (tgt := 28) (kx_dd d_Mo_need 12 rfl) rfl (fun c21 => ?_) (fun c21 => ?_)
      · refine kx_aload_n (pc := 28) (kx_dd d_Mo_need 15 rfl) rfl rfl ?_
        refine kx_iload_n (pc := 29) (kx_dd d_Mo_need 16 rfl) rfl rfl ?_
        refine kx_iload_n (pc := 30) (kx_dd d_Mo_need 17 rfl) rfl rfl ?_
        refine kx_invV (pc := 31) (a := 84) (as := [_, _]) (kx_dd d_Mo_need 18 rfl) ⟨lk_Mo_267, wi_Mo_needOf, we_Mo_needOf⟩ w_Mo_needOf (hm.k 0 rfl) rfl rfl rfl rfl (Nat.le_of_ble_eq_true rfl) (y_needOf (d := d + 2) hm _ _ hw3.1 (V v9) (hV v9 hv9).1 v9 (by omega) (hV3 v9 hv9).2 j j1) (Nat.le_refl _) ⟨Nat.le_refl _, Nat.le_refl _⟩ (fun v h' hq => ?_)
        obtain ⟨rfl, he⟩ := hq
        rw [he]
        clear he
        refine kx_iret (pc := 34) rfl (kx_dd d_Mo_need 19 rfl) (Nat.le_refl _) (Nat.le_refl _) ?_
        exact ⟨nw3, T3, hx3, hw3, hF, e53, fun u hu => (hV3 u hu).2, Or.inr ⟨v9, hv9, rfl, Or.inr ⟨j3, by rw [j2]⟩⟩⟩
      · exact absurd c21 (nI_m2 (by have := hw3.1.1; omega))
  · refine kx_bipush (pc := 11) (v := -2) (kx_dd d_Mo_need 5 rfl) rfl ?_
    refine kx_iret (pc := 13) rfl (kx_dd d_Mo_need 6 rfl) (Nat.le_refl _) (Nat.le_refl _) ?_
    rw [bP_0] at c8
    exact ⟨nw, T, WEx.rf, ⟨hwd.1, hwd.2.1.fc hf1 (by omega) (fun j => ⟨by omega, by omega⟩), Nat.le_succ_of_le hwd.2.2⟩, hf1.mono (fun a j q => by unfold FrW; omega), e5b, fun u hu => (hV u hu).2.fm hf1 (fun a j q1 q2 => by omega), Or.inl ⟨c8, rfl⟩⟩
theorem y_kind {l : Launch} {g : kx_G} {d : Nat} {h : kx_Mem} (b : Nat → Int32) (n nw : Nat) (T : Nat → Nat) (z : Nat) (V : Nat → RU) (hP : RPm b n nw T z V h) (hz : z < 1960) (q : Int32) : kx_Sp l g m_Mo_kind [.ref 84, .int q] h (d + 3) 0 0 (fun v h' => PoW (fun r w => oI (kiF r w)) b n nw T z V q h v h') := by
  obtain ⟨hm, hby, ⟨e5, hn6, hbb⟩, hwd, hV, hN2⟩ := id hP
  refine kx_enter_e (lv := [_, _, _]) (by decide +kernel) (Nat.le_of_ble_eq_true rfl) rfl ?_
  refine kx_aload_n (pc := 0) (kx_dd d_Mo_kind 0 rfl) rfl rfl ?_
  refine kx_invV (pc := 1) (a := 84) (as := []) (kx_dd d_Mo_kind 1 rfl) ⟨lk_Mo_236, wi_Mo_open, we_Mo_open⟩ w_Mo_open (hm.k 0 rfl) rfl rfl rfl rfl (Nat.le_of_ble_eq_true rfl) (y_open (d := d + 2) hm) (Nat.le_refl _) ⟨Nat.le_refl _, Nat.le_refl _⟩ (fun v h' hq => ?_)
  revert h'
  intro h1 hq
  obtain ⟨rfl, he1⟩ := hq
  have hf1 : kx_Fc (fun a j => a = 84 ∧ (j = 5 ∨ j = 6 ∨ j = 8)) h h1 := by rw [he1]; exact ((kx_Fc.set ⟨rfl, by omega⟩).tr (kx_Fc.set ⟨rfl, by omega⟩)).tr (kx_Fc.set ⟨rfl, by omega⟩)
  have e6 : h1.1 84 6 = nI n := by rw [he1, setI_ne (Or.inr (by decide)), setI_ne (Or.inr (by decide)), setI_at]; exact e5
  have e5b : h1.1 84 5 = 0 := by rw [he1, setI_ne (Or.inr (by decide)), setI_at]
  have e8 : h1.1 84 8 = nI 0 := by rw [he1, setI_at]; rfl
  clear he1
  have hm : SM h1 := hm.fc hf1
  refine kx_iload_n (pc := 4) (kx_dd d_Mo_kind 2 rfl) rfl rfl ?_
  refine kx_invS (pc := 5) (as := [_]) (kx_dd d_Mo_kind 3 rfl) ⟨lk_Mo_239, wt_Mo_isVersion⟩ w_Mo_isVersion rfl rfl (Nat.le_of_ble_eq_true rfl) (y_isVersion (d := d + 1) q) (Nat.le_refl _) ⟨Nat.le_refl _, Nat.le_refl _⟩ (fun v h' hq => ?_)
  obtain ⟨rfl, he⟩ := hq
  rw [he]
  clear he
  refine kx_if_ne (pc := 8) (tgt := 14) (kx_dd d_Mo_kind 4 rfl) rfl (fun c8 => ?_) (fun c8 => ?_)
  · have c8 : vrs q := Classical.not_not.mp (fun x => c8 (bP_0.mpr x))
    obtain ⟨v9, hv9, rfl⟩ := vrs_n c8
    have ht1 : TapM b n h1 := ⟨e6, hn6, fun k hk => by rw [hf1.2 88 k (by omega)]; exact hbb k hk⟩
    have hw1 : WDm nw T z h1 := ⟨hwd.1, hwd.2.1.fc hf1 (by omega) (fun j => ⟨by omega, by omega⟩), hwd.2.2⟩
    refine kx_aload_n (pc := 14) (kx_dd d_Mo_kind 7 rfl) rfl rfl ?_
    refine kx_invV (pc := 15) (a := 84) (as := []) (kx_dd d_Mo_kind 8 rfl) ⟨lk_Mo_264, wi_Mo_oneWord, we_Mo_oneWord⟩ w_Mo_oneWord (hm.k 0 rfl) rfl rfl rfl rfl (Nat.le_of_ble_eq_true rfl) (y_oneWord (d := d) hm b n nw T z ht1 hby e8 hw1 hz) (Nat.le_refl _) ⟨Nat.le_refl _, Nat.le_refl _⟩ (fun v h' hq => ?_)
    revert h'
    intro h3 hq
    obtain ⟨nw3, T3, hx3, hw3, hf3, hor⟩ := hq
    have hm : SM h3 := hm.fc hf3
    have hV3 : ∀ u, u < 4 → RUok (V u) ∧ RUm (V u) u nw3 T3 h3 := fun u hu => ⟨(hV u hu).1, (((hV u hu).2.fm hf1 (fun a j q1 q2 => by omega)).ex hx3).fm hf3 (fun a j q1 q2 => by unfold FrV; omega)⟩
    have hF : kx_Fc FrW h h3 := (hf1.mono (fun a j q => by unfold FrW; omega)).tr (hf3.mono (fun a j q => by unfold FrV at q; unfold FrW; omega))
    have e53 : h3.1 84 5 = 0 := (hf3.2 84 5 (by unfold FrV; omega)).trans e5b
    rcases hor with ⟨o1, rfl⟩ | ⟨j, j1, j2, j3, rfl⟩
    · refine kx_istore_ne (pc := 18) (lv' := [_, _, _]) (kx_dd d_Mo_kind 9 rfl) rfl (Nat.le_of_ble_eq_true rfl) rfl ?_
      refine kx_iload_n (pc := 19) (kx_dd d_Mo_kind 10 rfl) rfl rfl ?_
      refine kx_iconst (pc := 20) (v := -1) (kx_dd d_Mo_kind 11 rfl) rfl ?_
      refine kx_icmp_ne (pc := 21) (tgt := 28) (kx_dd d_Mo_kind 12 rfl) rfl (fun c21 => ?_) (fun c21 => ?_)
      · exact absurd rfl c21
      · refine kx_iconst (pc := 24) (v := -1) (kx_dd d_Mo_kind 13 rfl) rfl ?_
        refine kx_goto (pc := 25) (tgt := 34) (kx_dd d_Mo_kind 14 rfl) rfl ?_
        refine kx_iret (pc := 34) rfl (kx_dd d_Mo_kind 19 rfl) (Nat.le_refl _) (Nat.le_refl _) ?_
        exact ⟨nw3, T3, hx3, hw3, hF, e53, fun u hu => (hV3 u hu).2, Or.inr ⟨v9, hv9, rfl, Or.inl ⟨o1, rfl⟩⟩⟩
    · refine kx_istore_ne (pc := 18) (lv' := [_, _, _]) (kx_dd d_Mo_kind 9 rfl) rfl (Nat.le_of_ble_eq_true rfl) rfl ?_
      refine kx_iload_n (pc := 19) (kx_dd d_Mo_kind 10 rfl) rfl rfl ?_
      refine kx_iconst (pc := 20) (v := -1) (kx_dd d_Mo_kind 11 rfl) rfl ?_
      refine kx_icmp_ne (pc := 21) (tgt := 28) (kx_dd d_Mo_kind 12 rfl) rfl (fun c21 => ?_) (fun c21 => ?_)
      · refine kx_aload_n (pc := 28) (kx_dd d_Mo_kind 15 rfl) rfl rfl ?_
        refine kx_iload_n (pc := 29) (kx_dd d_Mo_kind 16 rfl) rfl rfl ?_
        refine kx_iload_n (pc := 30) (kx_dd d_Mo_kind 17 rfl) rfl rfl ?_
        refine kx_invV (pc := 31) (a := 84) (as := [_, _]) (kx_dd d_Mo_kind 18 rfl) ⟨lk_Mo_106, wi_Mo_kindOf, we_Mo_kindOf⟩ w_Mo_kindOf (hm.k 0 rfl) rfl rfl rfl rfl (Nat.le_of_ble_eq_true rfl) (y_kindOf (d := d + 2) hm _ _ hw3.1 (V v9) (hV v9 hv9).1 v9 (by omega) (hV3 v9 hv9).2 j j1) (Nat.le_refl _) ⟨Nat.le_refl _, Nat.le_refl _⟩ (fun v h' hq => ?_)
        obtain ⟨rfl, he⟩ := hq
        rw [he]
        clear he
        refine kx_iret (pc := 34) rfl (kx_dd d_Mo_kind 19 rfl) (Nat.le_refl _) (Nat.le_refl _) ?_
        exact ⟨nw3, T3, hx3, hw3, hF, e53, fun u hu => (hV3 u hu).2, Or.inr ⟨v9, hv9, rfl, Or.inr ⟨j3, by rw [j2]⟩⟩⟩
      · exact absurd c21 (nI_m2 (by have := hw3.1.1; omega))
  · refine kx_bipush (pc := 11) (v := -2) (kx_dd d_Mo_kind 5 rfl) rfl ?_
    refine kx_iret (pc := 13) rfl (kx_dd d_Mo_kind 6 rfl) (Nat.le_refl _) (Nat.le_refl _) ?_
    rw [bP_0] at c8
    exact ⟨nw, T, WEx.rf, ⟨hwd.1, hwd.2.1.fc hf1 (by omega) (fun j => ⟨by omega, by omega⟩), Nat.le_succ_of_le hwd.2.2⟩, hf1.mono (fun a j q => by unfold FrW; omega), e5b, fun u hu => (hV u hu).2.fm hf1 (fun a j q1 q2 => by omega), Or.inl ⟨c8, rfl⟩⟩
theorem y_fault {l : Launch} {g : kx_G} {d : Nat} {h : kx_Mem} (hm : SM h) (q : Int32) : kx_Sp l g m_Mo_fault [.ref 84, .int q] h (d) 0 0 (fun v h' => v = some (.int (if q = 0 then h.1 84 11 else if q = 1 then h.1 84 12 else -1)) ∧ h' = h) := by
  refine kx_enter_e (lv := [_, _]) (by decide +kernel) (Nat.le_of_ble_eq_true rfl) rfl ?_
  refine kx_iload_n (pc := 0) (kx_dd d_Mo_fault 0 rfl) rfl rfl ?_
  refine kx_if_ne (pc := 1) (tgt := 11) (kx_dd d_Mo_fault 1 rfl) rfl (fun c1 => ?_) (fun c1 => ?_)
  · refine kx_iload_n (pc := 11) (kx_dd d_Mo_fault 5 rfl) rfl rfl ?_
    refine kx_iconst (pc := 12) (v := 1) (kx_dd d_Mo_fault 6 rfl) rfl ?_
    refine kx_icmp_ne (pc := 13) (tgt := 23) (kx_dd d_Mo_fault 7 rfl) rfl (fun c13 => ?_) (fun c13 => ?_)
    · refine kx_iconst (pc := 23) (v := -1) (kx_dd d_Mo_fault 11 rfl) rfl ?_
      refine kx_iret (pc := 24) rfl (kx_dd d_Mo_fault 12 rfl) (Nat.le_refl _) (Nat.le_refl _) ?_
      exact ⟨by rw [if_neg c1, if_neg c13], rfl⟩
    · refine kx_aload_n (pc := 16) (kx_dd d_Mo_fault 8 rfl) rfl rfl ?_
      refine kx_getI (pc := 17) fl_Mo_30 (hm.k 0 rfl) rfl (kx_dd d_Mo_fault 9 rfl) ?_
      refine kx_goto (pc := 20) (tgt := 24) (kx_dd d_Mo_fault 10 rfl) rfl ?_
      refine kx_iret (pc := 24) rfl (kx_dd d_Mo_fault 12 rfl) (Nat.le_refl _) (Nat.le_refl _) ?_
      exact ⟨by rw [if_neg c1, if_pos c13], rfl⟩
  · refine kx_aload_n (pc := 4) (kx_dd d_Mo_fault 2 rfl) rfl rfl ?_
    refine kx_getI (pc := 5) fl_Mo_24 (hm.k 0 rfl) rfl (kx_dd d_Mo_fault 3 rfl) ?_
    refine kx_goto (pc := 8) (tgt := 24) (kx_dd d_Mo_fault 4 rfl) rfl ?_
    refine kx_iret (pc := 24) rfl (kx_dd d_Mo_fault 12 rfl) (Nat.le_refl _) (Nat.le_refl _) ?_
    exact ⟨by rw [if_pos c1], rfl⟩
theorem y_force {l : Launch} {g : kx_G} {d : Nat} {h : kx_Mem} (hm : SM h) (q : Int32) : kx_Sp l g m_Mo_force [.ref 84, .int q] h (d + 2) 0 0 (fun v h' => (vrs q ∧ v = some (.int (h.1 84 31)) ∧ h' = kx_setI h 84 31 q) ∨ (¬ vrs q ∧ v = some (.int (-2)) ∧ h' = h)) := by
  refine kx_enter_e (lv := [_, _, _]) (by decide +kernel) (Nat.le_of_ble_eq_true rfl) rfl ?_
  refine kx_iload_n (pc := 0) (kx_dd d_Mo_force 0 rfl) rfl rfl ?_
  refine kx_invS (pc := 1) (as := [_]) (kx_dd d_Mo_force 1 rfl) ⟨lk_Mo_239, wt_Mo_isVersion⟩ w_Mo_isVersion rfl rfl (Nat.le_of_ble_eq_true rfl) (y_isVersion (d := d) q) (Nat.le_refl _) ⟨Nat.le_refl _, Nat.le_refl _⟩ (fun v h' hq => ?_)
  obtain ⟨rfl, he⟩ := hq
  rw [he]
  clear he
  refine kx_if_ne (pc := 4) (tgt := 10) (kx_dd d_Mo_force 2 rfl) rfl (fun c4 => ?_) (fun c4 => ?_)
  · refine kx_aload_n (pc := 10) (kx_dd d_Mo_force 5 rfl) rfl rfl ?_
    refine kx_getI (pc := 11) fl_Mo_251 (hm.k 0 rfl) rfl (kx_dd d_Mo_force 6 rfl) ?_
    refine kx_istore_ne (pc := 14) (lv' := [_, _, _]) (kx_dd d_Mo_force 7 rfl) rfl (Nat.le_of_ble_eq_true rfl) rfl ?_
    refine kx_aload_n (pc := 15) (kx_dd d_Mo_force 8 rfl) rfl rfl ?_
    refine kx_iload_n (pc := 16) (kx_dd d_Mo_force 9 rfl) rfl rfl ?_
    refine kx_putI (pc := 17) fl_Mo_251 (hm.k 0 rfl) (by decide) rfl rfl (kx_dd d_Mo_force 10 rfl) ?_
    refine kx_iload_n (pc := 20) (kx_dd d_Mo_force 11 rfl) rfl rfl ?_
    refine kx_iret (pc := 21) rfl (kx_dd d_Mo_force 12 rfl) (Nat.le_refl _) (Nat.le_refl _) ?_
    exact Or.inl ⟨Classical.not_not.mp (fun x => c4 (bP_0.mpr x)), rfl, rfl⟩
  · refine kx_bipush (pc := 7) (v := -2) (kx_dd d_Mo_force 3 rfl) rfl ?_
    refine kx_iret (pc := 9) rfl (kx_dd d_Mo_force 4 rfl) (Nat.le_refl _) (Nat.le_refl _) ?_
    rw [bP_0] at c4
    exact Or.inr ⟨c4, rfl, rfl⟩
theorem inAx (w : Int32) : ((0 : Int64) ≤ w.toInt64 ∧ w.toInt64 ≤ 10) ↔ 0 ≤ w ∧ w < 11 := by
  rw [w_le0, show (10 : Int64) = (nI 11).toInt64 - 1 by decide, w_pred (by decide)]
  exact Iff.rfl
theorem inBx (w : Int32) : ((20 : Int64) ≤ w.toInt64 ∧ w.toInt64 ≤ 23) ↔ 20 ≤ w ∧ w < 24 := by
  rw [show (20 : Int64) = (20 : Int32).toInt64 by decide, w_le, show (23 : Int64) = (nI 24).toInt64 - 1 by decide, w_pred (by decide)]
  exact Iff.rfl
theorem inCx (w : Int32) {K : Nat} (hK : K ≤ 16) : ((30 : Int64) ≤ w.toInt64 ∧ w.toInt64 ≤ 29 + (nI K).toInt64) ↔ 30 ≤ w ∧ w < nI (30 + K) := by
  rw [show (30 : Int64) = (30 : Int32).toInt64 by decide, w_le, (by decide : ∀ K, K < 17 → (29 : Int64) + (nI K).toInt64 = (nI (30 + K)).toInt64 - 1) K (by omega), w_pred (by omega)]
theorem y_rule {l : Launch} {g : kx_G} {d : Nat} {h : kx_Mem} (hm : SM h) (nw : Nat) (T : Nat → Nat) (V : Nat → RU) (hV : ∀ u, u < 4 → RUok (V u) ∧ RUm (V u) u nw T h) (q w : Int32) : kx_Sp l g m_Mo_rule [.ref 84, .int q, .int w] h (d + 2) 0 0 (fun v h' => v = some (.int (@ite _ (vrs q) (Classical.propDecidable _) (detR (V q.toNatClampNeg) w) (-9))) ∧ h' = h) := by
  refine kx_enter_e (lv := [_, _, _]) (by decide +kernel) (Nat.le_of_ble_eq_true rfl) rfl ?_
  refine kx_iload_n (pc := 0) (kx_dd d_Mo_rule 0 rfl) rfl rfl ?_
  refine kx_invS (pc := 1) (as := [_]) (kx_dd d_Mo_rule 1 rfl) ⟨lk_Mo_239, wt_Mo_isVersion⟩ w_Mo_isVersion rfl rfl (Nat.le_of_ble_eq_true rfl) (y_isVersion (d := d) q) (Nat.le_refl _) ⟨Nat.le_refl _, Nat.le_refl _⟩ (fun v h' hq => ?_)
  obtain ⟨rfl, he⟩ := hq
  rw [he]
  clear he
  refine kx_if_ne (pc := 4) (tgt := 10) (kx_dd d_Mo_rule 2 rfl) rfl (fun c4 => ?_) (fun c4 => ?_)
  · have c4 : vrs q := Classical.not_not.mp (fun x => c4 (bP_0.mpr x))
    obtain ⟨v9, hv9, rfl⟩ := vrs_n c4
    obtain ⟨ho, hp⟩ := hV v9 hv9
    have o16 := ho.1
    have e91 : h.1 91 v9 = nI (ruK (V v9)) := hp.2.2.1
    refine kx_iload_n (pc := 10) (kx_dd d_Mo_rule 5 rfl) rfl rfl ?_
    refine kx_i2l (pc := 11) (kx_dd d_Mo_rule 6 rfl) ?_
    refine kx_lconst (pc := 12) (v := 0) (kx_dd d_Mo_rule 7 rfl) rfl ?_
    refine kx_ldc2 (pc := 13) kl_Mo_254 (kx_dd d_Mo_rule 8 rfl) ?_
    refine kx_invS (pc := 16) (as := [_, _, _]) (kx_dd d_Mo_rule 9 rfl) ⟨lk_Mo_5, wt_Mo_in⟩ w_Mo_in rfl rfl (Nat.le_of_ble_eq_true rfl) (y_in (d := d + 1) _ _ _) (Nat.le_refl _) ⟨Nat.le_refl _, Nat.le_refl _⟩ (fun v h' hq => ?_)
    obtain ⟨rfl, he⟩ := hq
    rw [he]
    clear he
    refine kx_if_eq (pc := 19) (tgt := 29) (kx_dd d_Mo_rule 10 rfl) rfl (fun c19 => ?_) (fun c19 => ?_)
    · refine kx_iload_n (pc := 29) (kx_dd d_Mo_rule 16 rfl) rfl rfl ?_
      refine kx_i2l (pc := 30) (kx_dd d_Mo_rule 17 rfl) ?_
      refine kx_ldc2 (pc := 31) kl_Mo_256 (kx_dd d_Mo_rule 18 rfl) ?_
      refine kx_ldc2 (pc := 34) kl_Mo_258 (kx_dd d_Mo_rule 19 rfl) ?_
      refine kx_invS (pc := 37) (as := [_, _, _]) (kx_dd d_Mo_rule 20 rfl) ⟨lk_Mo_5, wt_Mo_in⟩ w_Mo_in rfl rfl (Nat.le_of_ble_eq_true rfl) (y_in (d := d + 1) _ _ _) (Nat.le_refl _) ⟨Nat.le_refl _, Nat.le_refl _⟩ (fun v h' hq => ?_)
      obtain ⟨rfl, he⟩ := hq
      rw [he]
      clear he
      refine kx_if_eq (pc := 40) (tgt := 57) (kx_dd d_Mo_rule 21 rfl) rfl (fun c40 => ?_) (fun c40 => ?_)
      · refine kx_iload_n (pc := 57) (kx_dd d_Mo_rule 33 rfl) rfl rfl ?_
        refine kx_i2l (pc := 58) (kx_dd d_Mo_rule 34 rfl) ?_
        refine kx_ldc2 (pc := 59) kl_Mo_260 (kx_dd d_Mo_rule 35 rfl) ?_
        refine kx_ldc2 (pc := 62) kl_Mo_262 (kx_dd d_Mo_rule 36 rfl) ?_
        refine kx_aload_n (pc := 65) (kx_dd d_Mo_rule 37 rfl) rfl rfl ?_
        refine kx_getR (pc := 66) (b := 91) fl_Mo_91 (hm.k 0 rfl) rfl (hm.r 6 rfl) (kx_dd d_Mo_rule 38 rfl) ?_
        refine kx_iload_n (pc := 69) (kx_dd d_Mo_rule 39 rfl) rfl rfl ?_
        refine kx_ialdn (pc := 70) v9 (hm.t 7 rfl) rfl (by omega) (by decide) (kx_dd d_Mo_rule 40 rfl) ?_
        refine kx_i2l (pc := 71) (kx_dd d_Mo_rule 41 rfl) ?_
        refine kx_ladd (pc := 72) (kx_dd d_Mo_rule 42 rfl) ?_
        refine kx_invS (pc := 73) (as := [_, _, _]) (kx_dd d_Mo_rule 43 rfl) ⟨lk_Mo_5, wt_Mo_in⟩ w_Mo_in rfl rfl (Nat.le_of_ble_eq_true rfl) (y_in (d := d + 1) _ _ _) (Nat.le_refl _) ⟨Nat.le_refl _, Nat.le_refl _⟩ (fun v h' hq => ?_)
        obtain ⟨rfl, he⟩ := hq
        rw [he]
        clear he
        refine kx_if_eq (pc := 76) (tgt := 94) (kx_dd d_Mo_rule 44 rfl) rfl (fun c76 => ?_) (fun c76 => ?_)
        · refine kx_iload_n (pc := 94) (kx_dd d_Mo_rule 56 rfl) rfl rfl ?_
          refine kx_bipush (pc := 95) (v := 11) (kx_dd d_Mo_rule 57 rfl) rfl ?_
          refine kx_icmp_ne (pc := 97) (tgt := 109) (kx_dd d_Mo_rule 58 rfl) rfl (fun c97 => ?_) (fun c97 => ?_)
          · refine kx_iload_n (pc := 109) (kx_dd d_Mo_rule 64 rfl) rfl rfl ?_
            refine kx_bipush (pc := 110) (v := 12) (kx_dd d_Mo_rule 65 rfl) rfl ?_
            refine kx_icmp_ne (pc := 112) (tgt := 124) (kx_dd d_Mo_rule 66 rfl) rfl (fun c112 => ?_) (fun c112 => ?_)
            · refine kx_iload_n (pc := 124) (kx_dd d_Mo_rule 72 rfl) rfl rfl ?_
              refine kx_bipush (pc := 125) (v := 13) (kx_dd d_Mo_rule 73 rfl) rfl ?_
              refine kx_icmp_ne (pc := 127) (tgt := 139) (kx_dd d_Mo_rule 74 rfl) rfl (fun c127 => ?_) (fun c127 => ?_)
              · refine kx_bipush (pc := 139) (v := -9) (kx_dd d_Mo_rule 80 rfl) rfl ?_
                refine kx_iret (pc := 141) rfl (kx_dd d_Mo_rule 81 rfl) (Nat.le_refl _) (Nat.le_refl _) ?_
                rw [bP_0, inAx] at c19
                rw [bP_0, inBx] at c40
                rw [bP_0, e91, inCx _ o16] at c76
                refine ⟨?_, rfl⟩
                rw [if_pos c4, nI_clamp (by omega)]
                unfold detR
                rw [if_neg c19, if_neg c40, if_neg c76, if_neg c97, if_neg c112, if_neg c127]
              · refine kx_aload_n (pc := 130) (kx_dd d_Mo_rule 75 rfl) rfl rfl ?_
                refine kx_getR (pc := 131) (b := 100) fl_Mo_100 (hm.k 0 rfl) rfl (hm.r 15 rfl) (kx_dd d_Mo_rule 76 rfl) ?_
                refine kx_iload_n (pc := 134) (kx_dd d_Mo_rule 77 rfl) rfl rfl ?_
                refine kx_ialdn (pc := 135) v9 (hm.t 16 rfl) rfl (by omega) (by decide) (kx_dd d_Mo_rule 78 rfl) ?_
                refine kx_goto (pc := 136) (tgt := 141) (kx_dd d_Mo_rule 79 rfl) rfl ?_
                refine kx_iret (pc := 141) rfl (kx_dd d_Mo_rule 81 rfl) (Nat.le_refl _) (Nat.le_refl _) ?_
                rw [bP_0, inAx] at c19
                rw [bP_0, inBx] at c40
                rw [bP_0, e91, inCx _ o16] at c76
                refine ⟨?_, rfl⟩
                rw [if_pos c4, nI_clamp (by omega)]
                unfold detR
                rw [if_neg c19, if_neg c40, if_neg c76, if_neg c97, if_neg c112, if_pos c127, hp.2.2.2.2.2.2.2.2.1]
            · refine kx_aload_n (pc := 115) (kx_dd d_Mo_rule 67 rfl) rfl rfl ?_
              refine kx_getR (pc := 116) (b := 97) fl_Mo_97 (hm.k 0 rfl) rfl (hm.r 12 rfl) (kx_dd d_Mo_rule 68 rfl) ?_
              refine kx_iload_n (pc := 119) (kx_dd d_Mo_rule 69 rfl) rfl rfl ?_
              refine kx_ialdn (pc := 120) v9 (hm.t 13 rfl) rfl (by omega) (by decide) (kx_dd d_Mo_rule 70 rfl) ?_
              refine kx_goto (pc := 121) (tgt := 141) (kx_dd d_Mo_rule 71 rfl) rfl ?_
              refine kx_iret (pc := 141) rfl (kx_dd d_Mo_rule 81 rfl) (Nat.le_refl _) (Nat.le_refl _) ?_
              rw [bP_0, inAx] at c19
              rw [bP_0, inBx] at c40
              rw [bP_0, e91, inCx _ o16] at c76
              refine ⟨?_, rfl⟩
              rw [if_pos c4, nI_clamp (by omega)]
              unfold detR
              rw [if_neg c19, if_neg c40, if_neg c76, if_neg c97, if_pos c112, hp.2.2.2.2.2.2.1]
          · refine kx_aload_n (pc := 100) (kx_dd d_Mo_rule 59 rfl) rfl rfl ?_
            refine kx_getR (pc := 101) (b := 91) fl_Mo_91 (hm.k 0 rfl) rfl (hm.r 6 rfl) (kx_dd d_Mo_rule 60 rfl) ?_
            refine kx_iload_n (pc := 104) (kx_dd d_Mo_rule 61 rfl) rfl rfl ?_
            refine kx_ialdn (pc := 105) v9 (hm.t 7 rfl) rfl (by omega) (by decide) (kx_dd d_Mo_rule 62 rfl) ?_
            refine kx_goto (pc := 106) (tgt := 141) (kx_dd d_Mo_rule 63 rfl) rfl ?_
            refine kx_iret (pc := 141) rfl (kx_dd d_Mo_rule 81 rfl) (Nat.le_refl _) (Nat.le_refl _) ?_
            rw [bP_0, inAx] at c19
            rw [bP_0, inBx] at c40
            rw [bP_0, e91, inCx _ o16] at c76
            refine ⟨?_, rfl⟩
            rw [if_pos c4, nI_clamp (by omega)]
            unfold detR
            rw [if_neg c19, if_neg c40, if_neg c76, if_pos c97, e91]
        · have c76b : 30 ≤ w ∧ w < nI (30 + ruK (V v9)) := (inCx w o16).mp (Classical.not_not.mp (fun x => c76 (bP_0.mpr (by rw [e91]; exact x))))
          obtain ⟨k9, hk8, rfl, hk9⟩ := i_ge (n := 30) (by decide) c76b.1
          have hk7 : k9 < 30 + ruK (V v9) := (nI_ltI hk8 (by omega)).mp c76b.2
          refine kx_aload_n (pc := 79) (kx_dd d_Mo_rule 45 rfl) rfl rfl ?_
          refine kx_getR (pc := 80) (b := 93) fl_Mo_109 (hm.k 0 rfl) rfl (hm.r 8 rfl) (kx_dd d_Mo_rule 46 rfl) ?_
          refine kx_bipush (pc := 83) (v := 16) (kx_dd d_Mo_rule 47 rfl) rfl ?_
          refine kx_iload_n (pc := 85) (kx_dd d_Mo_rule 48 rfl) rfl rfl ?_
          refine kx_imul (pc := 86) (kx_dd d_Mo_rule 49 rfl) ?_
          refine kx_iload_n (pc := 87) (kx_dd d_Mo_rule 50 rfl) rfl rfl ?_
          refine kx_iadd (pc := 88) (kx_dd d_Mo_rule 51 rfl) ?_
          refine kx_bipush (pc := 89) (v := 30) (kx_dd d_Mo_rule 52 rfl) rfl ?_
          refine kx_isub (pc := 91) (kx_dd d_Mo_rule 53 rfl) ?_
          refine kx_ialdn (pc := 92) (16 * v9 + k9 - 30) (hm.t 9 rfl) (by rw [show (16 : Int32) = nI 16 from rfl, nI_ix 16 v9 k9]; exact pk_sub (b := 30) (by omega)) (by omega) (by decide) (kx_dd d_Mo_rule 54 rfl) ?_
          refine kx_iret (pc := 93) rfl (kx_dd d_Mo_rule 55 rfl) (Nat.le_refl _) (Nat.le_refl _) ?_
          rw [bP_0, inAx] at c19
          rw [bP_0, inBx] at c40
          refine ⟨?_, rfl⟩
          rw [if_pos c4, nI_clamp (by omega)]
          unfold detR
          rw [if_neg c19, if_neg c40, if_pos c76b, nI_clamp hk8, show 16 * v9 + k9 - 30 = 16 * v9 + (k9 - 30) by omega, (hp.2.2.2.1 (k9 - 30) (by omega)).2]
      · have c40b : 20 ≤ w ∧ w < 24 := (inBx w).mp (Classical.not_not.mp (fun x => c40 (bP_0.mpr x)))
        obtain ⟨k9, hk8, rfl, hk9⟩ := i_ge (n := 20) (by decide) c40b.1
        have hk7 : k9 < 24 := (nI_ltI (b := 24) hk8 (by decide)).mp c40b.2
        refine kx_aload_n (pc := 43) (kx_dd d_Mo_rule 22 rfl) rfl rfl ?_
        refine kx_getR (pc := 44) (b := 90) fl_Mo_88 (hm.k 0 rfl) rfl (hm.r 5 rfl) (kx_dd d_Mo_rule 23 rfl) ?_
        refine kx_iconst (pc := 47) (v := 4) (kx_dd d_Mo_rule 24 rfl) rfl ?_
        refine kx_iload_n (pc := 48) (kx_dd d_Mo_rule 25 rfl) rfl rfl ?_
        refine kx_imul (pc := 49) (kx_dd d_Mo_rule 26 rfl) ?_
        refine kx_iload_n (pc := 50) (kx_dd d_Mo_rule 27 rfl) rfl rfl ?_
        refine kx_iadd (pc := 51) (kx_dd d_Mo_rule 28 rfl) ?_
        refine kx_bipush (pc := 52) (v := 20) (kx_dd d_Mo_rule 29 rfl) rfl ?_
        refine kx_isub (pc := 54) (kx_dd d_Mo_rule 30 rfl) ?_
        refine kx_ialdn (pc := 55) (4 * v9 + k9 - 20) (hm.t 6 rfl) (by rw [show (4 : Int32) = nI 4 from rfl, nI_ix 4 v9 k9]; exact pk_sub (b := 20) (by omega)) (by omega) (by decide) (kx_dd d_Mo_rule 31 rfl) ?_
        refine kx_iret (pc := 56) rfl (kx_dd d_Mo_rule 32 rfl) (Nat.le_refl _) (Nat.le_refl _) ?_
        rw [bP_0, inAx] at c19
        refine ⟨?_, rfl⟩
        rw [if_pos c4, nI_clamp (by omega)]
        unfold detR
        rw [if_neg c19, if_pos c40b, nI_clamp hk8, show 4 * v9 + k9 - 20 = 4 * v9 + (k9 - 20) by omega, hp.2.1 (k9 - 20) (by omega)]
    · have c19b : 0 ≤ w ∧ w < 11 := (inAx w).mp (Classical.not_not.mp (fun x => c19 (bP_0.mpr x)))
      obtain ⟨k9, hk9, rfl⟩ := valP (n := 11) (by decide) c19b
      refine kx_aload_n (pc := 22) (kx_dd d_Mo_rule 11 rfl) rfl rfl ?_
      refine kx_iload_n (pc := 23) (kx_dd d_Mo_rule 12 rfl) rfl rfl ?_
      refine kx_iload_n (pc := 24) (kx_dd d_Mo_rule 13 rfl) rfl rfl ?_
      refine kx_invV (pc := 25) (a := 84) (as := [_, _]) (kx_dd d_Mo_rule 14 rfl) ⟨lk_Mo_162, wi_Mo_ruleOf, we_Mo_ruleOf⟩ w_Mo_ruleOf (hm.k 0 rfl) rfl rfl rfl rfl (Nat.le_of_ble_eq_true rfl) (y_ruleOf (d := d + 1) hm v9 k9 (by omega) hk9) (Nat.le_refl _) ⟨Nat.le_refl _, Nat.le_refl _⟩ (fun v h' hq => ?_)
      obtain ⟨rfl, he⟩ := hq
      rw [he]
      clear he
      refine kx_iret (pc := 28) rfl (kx_dd d_Mo_rule 15 rfl) (Nat.le_refl _) (Nat.le_refl _) ?_
      refine ⟨?_, rfl⟩
      rw [if_pos c4, nI_clamp (by omega)]
      unfold detR
      rw [if_pos c19b, nI_clamp (by omega), hp.1 k9 hk9]
  · refine kx_bipush (pc := 7) (v := -9) (kx_dd d_Mo_rule 3 rfl) rfl ?_
    refine kx_iret (pc := 9) rfl (kx_dd d_Mo_rule 4 rfl) (Nat.le_refl _) (Nat.le_refl _) ?_
    rw [bP_0] at c4
    exact ⟨by rw [if_neg (show ¬ vrs q from c4)], rfl⟩
