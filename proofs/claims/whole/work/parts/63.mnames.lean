/-! the reference: names at hand -/
theorem il_5 : ∀ j, j < ([98, 97, 114] : List Int32).length → isLe (([98, 97, 114] : List Int32).getD j 0) = true := by decide
theorem iw_5 {b : Nat → Int32} {n i : Nat} (h : i ≤ n) : isP b n i [98, 97, 114] ↔ tK b n i = 1 ∧ tW b n i = 2098 := isP_i h il_5
theorem il_6 : ∀ j, j < ([100, 97, 121, 115] : List Int32).length → isLe (([100, 97, 121, 115] : List Int32).getD j 0) = true := by decide
theorem iw_6 {b : Nat → Int32} {n i : Nat} (h : i ≤ n) : isP b n i [100, 97, 121, 115] ↔ tK b n i = 1 ∧ tW b n i = 132915 := isP_i h il_6
theorem il_7 : ∀ j, j < ([99, 104, 97, 105, 110] : List Int32).length → isLe (([99, 104, 97, 105, 110] : List Int32).getD j 0) = true := by decide
theorem iw_7 {b : Nat → Int32} {n i : Nat} (h : i ≤ n) : isP b n i [99, 104, 97, 105, 110] ↔ tK b n i = 1 ∧ tW b n i = 3409198 := isP_i h il_7
theorem il_8 : ∀ j, j < ([111, 114, 100, 101, 114] : List Int32).length → isLe (([111, 114, 100, 101, 114] : List Int32).getD j 0) = true := by decide
theorem iw_8 {b : Nat → Int32} {n i : Nat} (h : i ≤ n) : isP b n i [111, 114, 100, 101, 114] ↔ tK b n i = 1 ∧ tW b n i = 16322738 := isP_i h il_8
theorem il_9 : ∀ j, j < ([114, 97, 116, 101] : List Int32).length → isLe (([114, 97, 116, 101] : List Int32).getD j 0) = true := by decide
theorem iw_9 {b : Nat → Int32} {n i : Nat} (h : i ≤ n) : isP b n i [114, 97, 116, 101] ↔ tK b n i = 1 ∧ tW b n i = 591493 := isP_i h il_9
theorem il_10 : ∀ j, j < ([115, 112, 108, 105, 116] : List Int32).length → isLe (([115, 112, 108, 105, 116] : List Int32).getD j 0) = true := by decide
theorem iw_10 {b : Nat → Int32} {n i : Nat} (h : i ≤ n) : isP b n i [115, 112, 108, 105, 116] ↔ tK b n i = 1 ∧ tW b n i = 20459828 := isP_i h il_10
theorem il_11 : ∀ j, j < ([99, 97, 112] : List Int32).length → isLe (([99, 97, 112] : List Int32).getD j 0) = true := by decide
theorem iw_11 {b : Nat → Int32} {n i : Nat} (h : i ≤ n) : isP b n i [99, 97, 112] ↔ tK b n i = 1 ∧ tW b n i = 3120 := isP_i h il_11
theorem il_12 : ∀ j, j < ([116, 101, 115, 116] : List Int32).length → isLe (([116, 101, 115, 116] : List Int32).getD j 0) = true := by decide
theorem iw_12 {b : Nat → Int32} {n i : Nat} (h : i ≤ n) : isP b n i [116, 101, 115, 116] ↔ tK b n i = 1 ∧ tW b n i = 661108 := isP_i h il_12
theorem il_13 : ∀ j, j < ([108, 97, 116, 101] : List Int32).length → isLe (([108, 97, 116, 101] : List Int32).getD j 0) = true := by decide
theorem iw_13 {b : Nat → Int32} {n i : Nat} (h : i ≤ n) : isP b n i [108, 97, 116, 101] ↔ tK b n i = 1 ∧ tW b n i = 394885 := isP_i h il_13
theorem il_14 : ∀ j, j < ([112, 97, 114, 116] : List Int32).length → isLe (([112, 97, 114, 116] : List Int32).getD j 0) = true := by decide
theorem iw_14 {b : Nat → Int32} {n i : Nat} (h : i ≤ n) : isP b n i [112, 97, 114, 116] ↔ tK b n i = 1 ∧ tW b n i = 525908 := isP_i h il_14
theorem il_15 : ∀ j, j < ([108, 111, 115, 115] : List Int32).length → isLe (([108, 111, 115, 115] : List Int32).getD j 0) = true := by decide
theorem iw_15 {b : Nat → Int32} {n i : Nat} (h : i ≤ n) : isP b n i [108, 111, 115, 115] ↔ tK b n i = 1 ∧ tW b n i = 409203 := isP_i h il_15
theorem il_16 : ∀ j, j < ([102, 105, 108, 105, 110, 103] : List Int32).length → isLe (([102, 105, 108, 105, 110, 103] : List Int32).getD j 0) = true := by decide
theorem iw_16 {b : Nat → Int32} {n i : Nat} (h : i ≤ n) : isP b n i [102, 105, 108, 105, 110, 103] ↔ tK b n i = 1 ∧ tW b n i = 211166663 := isP_i h il_16
theorem il_17 : ∀ j, j < ([98, 111, 116, 104] : List Int32).length → isLe (([98, 111, 116, 104] : List Int32).getD j 0) = true := by decide
theorem iw_17 {b : Nat → Int32} {n i : Nat} (h : i ≤ n) : isP b n i [98, 111, 116, 104] ↔ tK b n i = 1 ∧ tW b n i = 81544 := isP_i h il_17
theorem il_18 : ∀ j, j < ([97, 108, 119, 97, 121, 115] : List Int32).length → isLe (([97, 108, 119, 97, 121, 115] : List Int32).getD j 0) = true := by decide
theorem iw_18 {b : Nat → Int32} {n i : Nat} (h : i ≤ n) : isP b n i [97, 108, 119, 97, 121, 115] ↔ tK b n i = 1 ∧ tW b n i = 46892851 := isP_i h il_18
theorem il_19 : ∀ j, j < ([111, 119, 110, 101, 114] : List Int32).length → isLe (([111, 119, 110, 101, 114] : List Int32).getD j 0) = true := by decide
theorem iw_19 {b : Nat → Int32} {n i : Nat} (h : i ≤ n) : isP b n i [111, 119, 110, 101, 114] ↔ tK b n i = 1 ∧ tW b n i = 16496818 := isP_i h il_19
theorem il_20 : ∀ j, j < ([99, 97, 114, 103, 111] : List Int32).length → isLe (([99, 97, 114, 103, 111] : List Int32).getD j 0) = true := by decide
theorem iw_20 {b : Nat → Int32} {n i : Nat} (h : i ≤ n) : isP b n i [99, 97, 114, 103, 111] ↔ tK b n i = 1 ∧ tW b n i = 3197167 := isP_i h il_20
theorem il_21 : ∀ j, j < ([108, 101, 110, 100, 101, 114] : List Int32).length → isLe (([108, 101, 110, 100, 101, 114] : List Int32).getD j 0) = true := by decide
theorem iw_21 {b : Nat → Int32} {n i : Nat} (h : i ≤ n) : isP b n i [108, 101, 110, 100, 101, 114] ↔ tK b n i = 1 ∧ tW b n i = 408359090 := isP_i h il_21
theorem il_22 : ∀ j, j < ([105, 110, 115, 117, 114, 101, 114] : List Int32).length → isLe (([105, 110, 115, 117, 114, 101, 114] : List Int32).getD j 0) = true := by decide
theorem iw_22 {b : Nat → Int32} {n i : Nat} (h : i ≤ n) : isP b n i [105, 110, 115, 117, 114, 101, 114] ↔ tK b n i = 1 ∧ tW b n i = 10154068146 := isP_i h il_22
theorem il_23 : ∀ j, j < ([108, 101, 97, 115, 116] : List Int32).length → isLe (([108, 101, 97, 115, 116] : List Int32).getD j 0) = true := by decide
theorem iw_23 {b : Nat → Int32} {n i : Nat} (h : i ≤ n) : isP b n i [108, 101, 97, 115, 116] ↔ tK b n i = 1 ∧ tW b n i = 12748404 := isP_i h il_23
theorem il_24 : ∀ j, j < ([109, 101, 97, 110] : List Int32).length → isLe (([109, 101, 97, 110] : List Int32).getD j 0) = true := by decide
theorem iw_24 {b : Nat → Int32} {n i : Nat} (h : i ≤ n) : isP b n i [109, 101, 97, 110] ↔ tK b n i = 1 ∧ tW b n i = 431150 := isP_i h il_24
theorem il_25 : ∀ j, j < ([117, 109, 112, 105, 114, 101] : List Int32).length → isLe (([117, 109, 112, 105, 114, 101] : List Int32).getD j 0) = true := by decide
theorem iw_25 {b : Nat → Int32} {n i : Nat} (h : i ≤ n) : isP b n i [117, 109, 112, 105, 114, 101] ↔ tK b n i = 1 ∧ tW b n i = 718808645 := isP_i h il_25
theorem il_26 : ∀ j, j < ([119, 101, 105, 103, 104] : List Int32).length → isLe (([119, 101, 105, 103, 104] : List Int32).getD j 0) = true := by decide
theorem iw_26 {b : Nat → Int32} {n i : Nat} (h : i ≤ n) : isP b n i [119, 101, 105, 103, 104] ↔ tK b n i = 1 ∧ tW b n i = 24290536 := isP_i h il_26
theorem il_27 : ∀ j, j < ([110, 101, 101, 100] : List Int32).length → isLe (([110, 101, 101, 100] : List Int32).getD j 0) = true := by decide
theorem iw_27 {b : Nat → Int32} {n i : Nat} (h : i ≤ n) : isP b n i [110, 101, 101, 100] ↔ tK b n i = 1 ∧ tW b n i = 464036 := isP_i h il_27
theorem il_28 : ∀ j, j < ([109, 117, 115, 116] : List Int32).length → isLe (([109, 117, 115, 116] : List Int32).getD j 0) = true := by decide
theorem iw_28 {b : Nat → Int32} {n i : Nat} (h : i ≤ n) : isP b n i [109, 117, 115, 116] ↔ tK b n i = 1 ∧ tW b n i = 448116 := isP_i h il_28
theorem il_29 : ∀ j, j < ([101, 105, 116, 104, 101, 114] : List Int32).length → isLe (([101, 105, 116, 104, 101, 114] : List Int32).getD j 0) = true := by decide
theorem iw_29 {b : Nat → Int32} {n i : Nat} (h : i ≤ n) : isP b n i [101, 105, 116, 104, 101, 114] ↔ tK b n i = 1 ∧ tW b n i = 177873074 := isP_i h il_29
theorem ixO_get {w : Nat} : ∀ (cs : List Nat) (k q : Nat), ixO cs w k = some q → cs[q - k]? = some w
  | [], k, q, h => by cases h
  | c :: cs, k, q, h => by
    unfold ixO at h
    split at h
    next e => cases h; simp [e]
    next =>
      have h1 := ixO_lt cs (k + 1) q h
      have h2 := ixO_get cs (k + 1) q h
      rw [show q - k = (q - (k + 1)) + 1 by omega, List.getElem?_cons_succ]
      exact h2
theorem chO_get {b : Nat → Int32} {n i q : Nat} {nm : List Nat} (h : chO b n i nm = some q) : tK b n i = 1 ∧ nm[q]? = some (tW b n i) := by
  unfold chO at h
  split at h
  next hk => exact ⟨hk, by have := ixO_get _ _ _ h; simpa using this⟩
  next => cases h
theorem chO_of {b : Nat → Int32} {n i w : Nat} {nm : List Nat} {o : Option Nat} (h1 : tK b n i = 1) (h2 : tW b n i = w) (h3 : ixO nm w 0 = o) : chO b n i nm = o := by
  unfold chO
  rw [if_pos h1, h2]
  exact h3
/-- the clause's number, as the reference has it -/
def onO (o : Option Nat) : Int32 := match o with
  | none => -1
  | some c => ([0, 1, 2, 4, 5, 6, 7, 8, 9, 3] : List Int32).getD c (-1)
theorem y_once {l : Launch} {g : kx_G} {d : Nat} {h : kx_Mem} (b : Nat → Int32) (n i : Nat) (r : RU) (fl : Nat → Prop) (nw : Nat) (T : Nat → Nat) (z : Nat) (hR : RM b n i r fl nw T z h) : kx_Sp l g m_Mo_once [.ref 84] h (d + 5) 0 0 (fun v h' => v = some (.int (onO (chO b n i nm0))) ∧ h' = h) := by
  have hm := hR.1
  have hin := hR.2.2.1
  have hki := tK_le (b := b) (n := n) (i := i)
  obtain ⟨k1, k2, k3, k4⟩ := id hR.2.2.2.1
  have ho := hR.2.2.2.2.1
  have o16 := ho.1
  have hn6 := hR.2.1.1.2.1
  refine kx_enter_e (lv := [_]) (by decide +kernel) (Nat.le_of_ble_eq_true rfl) rfl ?_
  refine kx_aload_n (pc := 0) (kx_dd d_Mo_once 0 rfl) rfl rfl ?_
  refine kx_ldcS (pc := 1) (k := 5) rfl rfl ks_5 (kx_dd d_Mo_once 1 rfl) ?_
  refine kx_invV (pc := 3) (a := 84) (as := [_]) (kx_dd d_Mo_once 2 rfl) ⟨lk_Mo_118, wi_Mo_is, we_Mo_is⟩ w_Mo_is (hm.k 0 rfl) rfl rfl rfl rfl (Nat.le_of_ble_eq_true rfl) (y_is (d := d) hm b n i hR.2.1.1 hin hR.2.2.2.1 (k := 5) (bs := [98, 97, 114]) rfl il_5) (Nat.le_refl _) ⟨Nat.le_refl _, Nat.le_refl _⟩ (fun v h' hq => ?_)
  obtain ⟨rfl, he⟩ := hq
  rw [he]
  clear he
  refine kx_if_eq (pc := 6) (tgt := 11) (kx_dd d_Mo_once 3 rfl) rfl (fun c6 => ?_) (fun c6 => ?_)
  · refine kx_aload_n (pc := 11) (kx_dd d_Mo_once 6 rfl) rfl rfl ?_
    refine kx_ldcS (pc := 12) (k := 6) rfl rfl ks_6 (kx_dd d_Mo_once 7 rfl) ?_
    refine kx_invV (pc := 14) (a := 84) (as := [_]) (kx_dd d_Mo_once 8 rfl) ⟨lk_Mo_118, wi_Mo_is, we_Mo_is⟩ w_Mo_is (hm.k 0 rfl) rfl rfl rfl rfl (Nat.le_of_ble_eq_true rfl) (y_is (d := d) hm b n i hR.2.1.1 hin hR.2.2.2.1 (k := 6) (bs := [100, 97, 121, 115]) rfl il_6) (Nat.le_refl _) ⟨Nat.le_refl _, Nat.le_refl _⟩ (fun v h' hq => ?_)
    obtain ⟨rfl, he⟩ := hq
    rw [he]
    clear he
    refine kx_if_eq (pc := 17) (tgt := 22) (kx_dd d_Mo_once 9 rfl) rfl (fun c17 => ?_) (fun c17 => ?_)
    · refine kx_aload_n (pc := 22) (kx_dd d_Mo_once 12 rfl) rfl rfl ?_
      refine kx_ldcS (pc := 23) (k := 7) rfl rfl ks_7 (kx_dd d_Mo_once 13 rfl) ?_
      refine kx_invV (pc := 25) (a := 84) (as := [_]) (kx_dd d_Mo_once 14 rfl) ⟨lk_Mo_118, wi_Mo_is, we_Mo_is⟩ w_Mo_is (hm.k 0 rfl) rfl rfl rfl rfl (Nat.le_of_ble_eq_true rfl) (y_is (d := d) hm b n i hR.2.1.1 hin hR.2.2.2.1 (k := 7) (bs := [99, 104, 97, 105, 110]) rfl il_7) (Nat.le_refl _) ⟨Nat.le_refl _, Nat.le_refl _⟩ (fun v h' hq => ?_)
      obtain ⟨rfl, he⟩ := hq
      rw [he]
      clear he
      refine kx_if_eq (pc := 28) (tgt := 33) (kx_dd d_Mo_once 15 rfl) rfl (fun c28 => ?_) (fun c28 => ?_)
      · refine kx_aload_n (pc := 33) (kx_dd d_Mo_once 18 rfl) rfl rfl ?_
        refine kx_ldcS (pc := 34) (k := 8) rfl rfl ks_8 (kx_dd d_Mo_once 19 rfl) ?_
        refine kx_invV (pc := 36) (a := 84) (as := [_]) (kx_dd d_Mo_once 20 rfl) ⟨lk_Mo_118, wi_Mo_is, we_Mo_is⟩ w_Mo_is (hm.k 0 rfl) rfl rfl rfl rfl (Nat.le_of_ble_eq_true rfl) (y_is (d := d) hm b n i hR.2.1.1 hin hR.2.2.2.1 (k := 8) (bs := [111, 114, 100, 101, 114]) rfl il_8) (Nat.le_refl _) ⟨Nat.le_refl _, Nat.le_refl _⟩ (fun v h' hq => ?_)
        obtain ⟨rfl, he⟩ := hq
        rw [he]
        clear he
        refine kx_if_eq (pc := 39) (tgt := 44) (kx_dd d_Mo_once 21 rfl) rfl (fun c39 => ?_) (fun c39 => ?_)
        · refine kx_aload_n (pc := 44) (kx_dd d_Mo_once 24 rfl) rfl rfl ?_
          refine kx_ldcS (pc := 45) (k := 9) rfl rfl ks_9 (kx_dd d_Mo_once 25 rfl) ?_
          refine kx_invV (pc := 47) (a := 84) (as := [_]) (kx_dd d_Mo_once 26 rfl) ⟨lk_Mo_118, wi_Mo_is, we_Mo_is⟩ w_Mo_is (hm.k 0 rfl) rfl rfl rfl rfl (Nat.le_of_ble_eq_true rfl) (y_is (d := d) hm b n i hR.2.1.1 hin hR.2.2.2.1 (k := 9) (bs := [114, 97, 116, 101]) rfl il_9) (Nat.le_refl _) ⟨Nat.le_refl _, Nat.le_refl _⟩ (fun v h' hq => ?_)
          obtain ⟨rfl, he⟩ := hq
          rw [he]
          clear he
          refine kx_if_eq (pc := 50) (tgt := 55) (kx_dd d_Mo_once 27 rfl) rfl (fun c50 => ?_) (fun c50 => ?_)
          · refine kx_aload_n (pc := 55) (kx_dd d_Mo_once 30 rfl) rfl rfl ?_
            refine kx_ldcS (pc := 56) (k := 10) rfl rfl ks_10 (kx_dd d_Mo_once 31 rfl) ?_
            refine kx_invV (pc := 58) (a := 84) (as := [_]) (kx_dd d_Mo_once 32 rfl) ⟨lk_Mo_118, wi_Mo_is, we_Mo_is⟩ w_Mo_is (hm.k 0 rfl) rfl rfl rfl rfl (Nat.le_of_ble_eq_true rfl) (y_is (d := d) hm b n i hR.2.1.1 hin hR.2.2.2.1 (k := 10) (bs := [115, 112, 108, 105, 116]) rfl il_10) (Nat.le_refl _) ⟨Nat.le_refl _, Nat.le_refl _⟩ (fun v h' hq => ?_)
            obtain ⟨rfl, he⟩ := hq
            rw [he]
            clear he
            refine kx_if_eq (pc := 61) (tgt := 66) (kx_dd d_Mo_once 33 rfl) rfl (fun c61 => ?_) (fun c61 => ?_)
            · refine kx_aload_n (pc := 66) (kx_dd d_Mo_once 36 rfl) rfl rfl ?_
              refine kx_ldcS (pc := 67) (k := 11) rfl rfl ks_11 (kx_dd d_Mo_once 37 rfl) ?_
              refine kx_invV (pc := 69) (a := 84) (as := [_]) (kx_dd d_Mo_once 38 rfl) ⟨lk_Mo_118, wi_Mo_is, we_Mo_is⟩ w_Mo_is (hm.k 0 rfl) rfl rfl rfl rfl (Nat.le_of_ble_eq_true rfl) (y_is (d := d) hm b n i hR.2.1.1 hin hR.2.2.2.1 (k := 11) (bs := [99, 97, 112]) rfl il_11) (Nat.le_refl _) ⟨Nat.le_refl _, Nat.le_refl _⟩ (fun v h' hq => ?_)
              obtain ⟨rfl, he⟩ := hq
              rw [he]
              clear he
              refine kx_if_eq (pc := 72) (tgt := 78) (kx_dd d_Mo_once 39 rfl) rfl (fun c72 => ?_) (fun c72 => ?_)
              · refine kx_aload_n (pc := 78) (kx_dd d_Mo_once 42 rfl) rfl rfl ?_
                refine kx_ldcS (pc := 79) (k := 12) rfl rfl ks_12 (kx_dd d_Mo_once 43 rfl) ?_
                refine kx_invV (pc := 81) (a := 84) (as := [_]) (kx_dd d_Mo_once 44 rfl) ⟨lk_Mo_118, wi_Mo_is, we_Mo_is⟩ w_Mo_is (hm.k 0 rfl) rfl rfl rfl rfl (Nat.le_of_ble_eq_true rfl) (y_is (d := d) hm b n i hR.2.1.1 hin hR.2.2.2.1 (k := 12) (bs := [116, 101, 115, 116]) rfl il_12) (Nat.le_refl _) ⟨Nat.le_refl _, Nat.le_refl _⟩ (fun v h' hq => ?_)
                obtain ⟨rfl, he⟩ := hq
                rw [he]
                clear he
                refine kx_if_eq (pc := 84) (tgt := 90) (kx_dd d_Mo_once 45 rfl) rfl (fun c84 => ?_) (fun c84 => ?_)
                · refine kx_aload_n (pc := 90) (kx_dd d_Mo_once 48 rfl) rfl rfl ?_
                  refine kx_ldcS (pc := 91) (k := 13) rfl rfl ks_13 (kx_dd d_Mo_once 49 rfl) ?_
                  refine kx_invV (pc := 93) (a := 84) (as := [_]) (kx_dd d_Mo_once 50 rfl) ⟨lk_Mo_118, wi_Mo_is, we_Mo_is⟩ w_Mo_is (hm.k 0 rfl) rfl rfl rfl rfl (Nat.le_of_ble_eq_true rfl) (y_is (d := d) hm b n i hR.2.1.1 hin hR.2.2.2.1 (k := 13) (bs := [108, 97, 116, 101]) rfl il_13) (Nat.le_refl _) ⟨Nat.le_refl _, Nat.le_refl _⟩ (fun v h' hq => ?_)
                  obtain ⟨rfl, he⟩ := hq
                  rw [he]
                  clear he
                  refine kx_if_eq (pc := 96) (tgt := 102) (kx_dd d_Mo_once 51 rfl) rfl (fun c96 => ?_) (fun c96 => ?_)
                  · refine kx_aload_n (pc := 102) (kx_dd d_Mo_once 54 rfl) rfl rfl ?_
                    refine kx_ldcS (pc := 103) (k := 14) rfl rfl ks_14 (kx_dd d_Mo_once 55 rfl) ?_
                    refine kx_invV (pc := 105) (a := 84) (as := [_]) (kx_dd d_Mo_once 56 rfl) ⟨lk_Mo_118, wi_Mo_is, we_Mo_is⟩ w_Mo_is (hm.k 0 rfl) rfl rfl rfl rfl (Nat.le_of_ble_eq_true rfl) (y_is (d := d) hm b n i hR.2.1.1 hin hR.2.2.2.1 (k := 14) (bs := [112, 97, 114, 116]) rfl il_14) (Nat.le_refl _) ⟨Nat.le_refl _, Nat.le_refl _⟩ (fun v h' hq => ?_)
                    obtain ⟨rfl, he⟩ := hq
                    rw [he]
                    clear he
                    refine kx_if_eq (pc := 108) (tgt := 116) (kx_dd d_Mo_once 57 rfl) rfl (fun c108 => ?_) (fun c108 => ?_)
                    · refine kx_iconst (pc := 116) (v := -1) (kx_dd d_Mo_once 60 rfl) rfl ?_
                      refine kx_iret (pc := 117) rfl (kx_dd d_Mo_once 61 rfl) (Nat.le_refl _) (Nat.le_refl _) ?_
                      rw [bP_0, iw_5 hin] at c6
                      rw [bP_0, iw_6 hin] at c17
                      rw [bP_0, iw_7 hin] at c28
                      rw [bP_0, iw_8 hin] at c39
                      rw [bP_0, iw_9 hin] at c50
                      rw [bP_0, iw_10 hin] at c61
                      rw [bP_0, iw_11 hin] at c72
                      rw [bP_0, iw_12 hin] at c84
                      rw [bP_0, iw_13 hin] at c96
                      rw [bP_0, iw_14 hin] at c108
                      refine ⟨?_, rfl⟩
                      cases hch : chO b n i nm0 with
                      | none => rfl
                      | some c =>
                        obtain ⟨h1, h2⟩ := chO_get hch
                        have hc := (chO_lt hch).2
                        match c, hc with
                        | 0, _ => exact absurd ⟨h1, (Option.some.inj h2).symm⟩ c6
                        | 1, _ => exact absurd ⟨h1, (Option.some.inj h2).symm⟩ c17
                        | 2, _ => exact absurd ⟨h1, (Option.some.inj h2).symm⟩ c28
                        | 3, _ => exact absurd ⟨h1, (Option.some.inj h2).symm⟩ c50
                        | 4, _ => exact absurd ⟨h1, (Option.some.inj h2).symm⟩ c61
                        | 5, _ => exact absurd ⟨h1, (Option.some.inj h2).symm⟩ c72
                        | 6, _ => exact absurd ⟨h1, (Option.some.inj h2).symm⟩ c84
                        | 7, _ => exact absurd ⟨h1, (Option.some.inj h2).symm⟩ c96
                        | 8, _ => exact absurd ⟨h1, (Option.some.inj h2).symm⟩ c108
                        | 9, _ => exact absurd ⟨h1, (Option.some.inj h2).symm⟩ c39
                        | 10, _ => rfl
                        | 11, _ => rfl
                        | 12, _ => rfl
                        | 13, _ => rfl
                        | m + 14, hc => exact absurd hc (by have : nm0.length = 14 := rfl; omega)
                    · refine kx_bipush (pc := 111) (v := 9) (kx_dd d_Mo_once 58 rfl) rfl ?_
                      refine kx_goto (pc := 113) (tgt := 117) (kx_dd d_Mo_once 59 rfl) rfl ?_
                      refine kx_iret (pc := 117) rfl (kx_dd d_Mo_once 61 rfl) (Nat.le_refl _) (Nat.le_refl _) ?_
                      rw [bP_0, Classical.not_not, iw_14 hin] at c108
                      exact ⟨by rw [chO_of (nm := nm0) (o := some 8) c108.1 c108.2 (by decide)]; rfl, rfl⟩
                  · refine kx_bipush (pc := 99) (v := 8) (kx_dd d_Mo_once 52 rfl) rfl ?_
                    refine kx_iret (pc := 101) rfl (kx_dd d_Mo_once 53 rfl) (Nat.le_refl _) (Nat.le_refl _) ?_
                    rw [bP_0, Classical.not_not, iw_13 hin] at c96
                    exact ⟨by rw [chO_of (nm := nm0) (o := some 7) c96.1 c96.2 (by decide)]; rfl, rfl⟩
                · refine kx_bipush (pc := 87) (v := 7) (kx_dd d_Mo_once 46 rfl) rfl ?_
                  refine kx_iret (pc := 89) rfl (kx_dd d_Mo_once 47 rfl) (Nat.le_refl _) (Nat.le_refl _) ?_
                  rw [bP_0, Classical.not_not, iw_12 hin] at c84
                  exact ⟨by rw [chO_of (nm := nm0) (o := some 6) c84.1 c84.2 (by decide)]; rfl, rfl⟩
              · refine kx_bipush (pc := 75) (v := 6) (kx_dd d_Mo_once 40 rfl) rfl ?_
                refine kx_iret (pc := 77) rfl (kx_dd d_Mo_once 41 rfl) (Nat.le_refl _) (Nat.le_refl _) ?_
                rw [bP_0, Classical.not_not, iw_11 hin] at c72
                exact ⟨by rw [chO_of (nm := nm0) (o := some 5) c72.1 c72.2 (by decide)]; rfl, rfl⟩
            · refine kx_iconst (pc := 64) (v := 5) (kx_dd d_Mo_once 34 rfl) rfl ?_
              refine kx_iret (pc := 65) rfl (kx_dd d_Mo_once 35 rfl) (Nat.le_refl _) (Nat.le_refl _) ?_
              rw [bP_0, Classical.not_not, iw_10 hin] at c61
              exact ⟨by rw [chO_of (nm := nm0) (o := some 4) c61.1 c61.2 (by decide)]; rfl, rfl⟩
          · refine kx_iconst (pc := 53) (v := 4) (kx_dd d_Mo_once 28 rfl) rfl ?_
            refine kx_iret (pc := 54) rfl (kx_dd d_Mo_once 29 rfl) (Nat.le_refl _) (Nat.le_refl _) ?_
            rw [bP_0, Classical.not_not, iw_9 hin] at c50
            exact ⟨by rw [chO_of (nm := nm0) (o := some 3) c50.1 c50.2 (by decide)]; rfl, rfl⟩
        · refine kx_iconst (pc := 42) (v := 3) (kx_dd d_Mo_once 22 rfl) rfl ?_
          refine kx_iret (pc := 43) rfl (kx_dd d_Mo_once 23 rfl) (Nat.le_refl _) (Nat.le_refl _) ?_
          rw [bP_0, Classical.not_not, iw_8 hin] at c39
          exact ⟨by rw [chO_of (nm := nm0) (o := some 9) c39.1 c39.2 (by decide)]; rfl, rfl⟩
      · refine kx_iconst (pc := 31) (v := 2) (kx_dd d_Mo_once 16 rfl) rfl ?_
        refine kx_iret (pc := 32) rfl (kx_dd d_Mo_once 17 rfl) (Nat.le_refl _) (Nat.le_refl _) ?_
        rw [bP_0, Classical.not_not, iw_7 hin] at c28
        exact ⟨by rw [chO_of (nm := nm0) (o := some 2) c28.1 c28.2 (by decide)]; rfl, rfl⟩
    · refine kx_iconst (pc := 20) (v := 1) (kx_dd d_Mo_once 10 rfl) rfl ?_
      refine kx_iret (pc := 21) rfl (kx_dd d_Mo_once 11 rfl) (Nat.le_refl _) (Nat.le_refl _) ?_
      rw [bP_0, Classical.not_not, iw_6 hin] at c17
      exact ⟨by rw [chO_of (nm := nm0) (o := some 1) c17.1 c17.2 (by decide)]; rfl, rfl⟩
  · refine kx_iconst (pc := 9) (v := 0) (kx_dd d_Mo_once 4 rfl) rfl ?_
    refine kx_iret (pc := 10) rfl (kx_dd d_Mo_once 5 rfl) (Nat.le_refl _) (Nat.le_refl _) ?_
    rw [bP_0, Classical.not_not, iw_5 hin] at c6
    exact ⟨by rw [chO_of (nm := nm0) (o := some 0) c6.1 c6.2 (by decide)]; rfl, rfl⟩
theorem y_roleAtHand {l : Launch} {g : kx_G} {d : Nat} {h : kx_Mem} (b : Nat → Int32) (n i : Nat) (r : RU) (fl : Nat → Prop) (nw : Nat) (T : Nat → Nat) (z : Nat) (hR : RM b n i r fl nw T z h) : kx_Sp l g m_Mo_roleAtHand [.ref 84] h (d + 5) 0 0 (fun v h' => v = some (.int (oI (chO b n i nm4))) ∧ h' = h) := by
  have hm := hR.1
  have hin := hR.2.2.1
  have hki := tK_le (b := b) (n := n) (i := i)
  obtain ⟨k1, k2, k3, k4⟩ := id hR.2.2.2.1
  have ho := hR.2.2.2.2.1
  have o16 := ho.1
  have hn6 := hR.2.1.1.2.1
  refine kx_enter_e (lv := [_]) (by decide +kernel) (Nat.le_of_ble_eq_true rfl) rfl ?_
  refine kx_aload_n (pc := 0) (kx_dd d_Mo_roleAtHand 0 rfl) rfl rfl ?_
  refine kx_ldcS (pc := 1) (k := 19) rfl rfl ks_19 (kx_dd d_Mo_roleAtHand 1 rfl) ?_
  refine kx_invV (pc := 3) (a := 84) (as := [_]) (kx_dd d_Mo_roleAtHand 2 rfl) ⟨lk_Mo_118, wi_Mo_is, we_Mo_is⟩ w_Mo_is (hm.k 0 rfl) rfl rfl rfl rfl (Nat.le_of_ble_eq_true rfl) (y_is (d := d) hm b n i hR.2.1.1 hin hR.2.2.2.1 (k := 19) (bs := [111, 119, 110, 101, 114]) rfl il_19) (Nat.le_refl _) ⟨Nat.le_refl _, Nat.le_refl _⟩ (fun v h' hq => ?_)
  obtain ⟨rfl, he⟩ := hq
  rw [he]
  clear he
  refine kx_if_eq (pc := 6) (tgt := 13) (kx_dd d_Mo_roleAtHand 3 rfl) rfl (fun c6 => ?_) (fun c6 => ?_)
  · refine kx_aload_n (pc := 13) (kx_dd d_Mo_roleAtHand 6 rfl) rfl rfl ?_
    refine kx_ldcS (pc := 14) (k := 20) rfl rfl ks_20 (kx_dd d_Mo_roleAtHand 7 rfl) ?_
    refine kx_invV (pc := 16) (a := 84) (as := [_]) (kx_dd d_Mo_roleAtHand 8 rfl) ⟨lk_Mo_118, wi_Mo_is, we_Mo_is⟩ w_Mo_is (hm.k 0 rfl) rfl rfl rfl rfl (Nat.le_of_ble_eq_true rfl) (y_is (d := d) hm b n i hR.2.1.1 hin hR.2.2.2.1 (k := 20) (bs := [99, 97, 114, 103, 111]) rfl il_20) (Nat.le_refl _) ⟨Nat.le_refl _, Nat.le_refl _⟩ (fun v h' hq => ?_)
    obtain ⟨rfl, he⟩ := hq
    rw [he]
    clear he
    refine kx_if_eq (pc := 19) (tgt := 26) (kx_dd d_Mo_roleAtHand 9 rfl) rfl (fun c19 => ?_) (fun c19 => ?_)
    · refine kx_aload_n (pc := 26) (kx_dd d_Mo_roleAtHand 12 rfl) rfl rfl ?_
      refine kx_ldcS (pc := 27) (k := 21) rfl rfl ks_21 (kx_dd d_Mo_roleAtHand 13 rfl) ?_
      refine kx_invV (pc := 29) (a := 84) (as := [_]) (kx_dd d_Mo_roleAtHand 14 rfl) ⟨lk_Mo_118, wi_Mo_is, we_Mo_is⟩ w_Mo_is (hm.k 0 rfl) rfl rfl rfl rfl (Nat.le_of_ble_eq_true rfl) (y_is (d := d) hm b n i hR.2.1.1 hin hR.2.2.2.1 (k := 21) (bs := [108, 101, 110, 100, 101, 114]) rfl il_21) (Nat.le_refl _) ⟨Nat.le_refl _, Nat.le_refl _⟩ (fun v h' hq => ?_)
      obtain ⟨rfl, he⟩ := hq
      rw [he]
      clear he
      refine kx_if_eq (pc := 32) (tgt := 39) (kx_dd d_Mo_roleAtHand 15 rfl) rfl (fun c32 => ?_) (fun c32 => ?_)
      · refine kx_aload_n (pc := 39) (kx_dd d_Mo_roleAtHand 18 rfl) rfl rfl ?_
        refine kx_ldcS (pc := 40) (k := 22) rfl rfl ks_22 (kx_dd d_Mo_roleAtHand 19 rfl) ?_
        refine kx_invV (pc := 42) (a := 84) (as := [_]) (kx_dd d_Mo_roleAtHand 20 rfl) ⟨lk_Mo_118, wi_Mo_is, we_Mo_is⟩ w_Mo_is (hm.k 0 rfl) rfl rfl rfl rfl (Nat.le_of_ble_eq_true rfl) (y_is (d := d) hm b n i hR.2.1.1 hin hR.2.2.2.1 (k := 22) (bs := [105, 110, 115, 117, 114, 101, 114]) rfl il_22) (Nat.le_refl _) ⟨Nat.le_refl _, Nat.le_refl _⟩ (fun v h' hq => ?_)
        obtain ⟨rfl, he⟩ := hq
        rw [he]
        clear he
        refine kx_if_eq (pc := 45) (tgt := 52) (kx_dd d_Mo_roleAtHand 21 rfl) rfl (fun c45 => ?_) (fun c45 => ?_)
        · refine kx_iconst (pc := 52) (v := -1) (kx_dd d_Mo_roleAtHand 24 rfl) rfl ?_
          refine kx_iret (pc := 53) rfl (kx_dd d_Mo_roleAtHand 25 rfl) (Nat.le_refl _) (Nat.le_refl _) ?_
          rw [bP_0, iw_19 hin] at c6
          rw [bP_0, iw_20 hin] at c19
          rw [bP_0, iw_21 hin] at c32
          rw [bP_0, iw_22 hin] at c45
          refine ⟨?_, rfl⟩
          cases hch : chO b n i nm4 with
          | none => rfl
          | some c =>
            obtain ⟨h1, h2⟩ := chO_get hch
            have hc := (chO_lt hch).2
            match c, hc with
            | 0, _ => exact absurd ⟨h1, (Option.some.inj h2).symm⟩ c6
            | 1, _ => exact absurd ⟨h1, (Option.some.inj h2).symm⟩ c19
            | 2, _ => exact absurd ⟨h1, (Option.some.inj h2).symm⟩ c32
            | 3, _ => exact absurd ⟨h1, (Option.some.inj h2).symm⟩ c45
            | m + 4, hc => exact absurd hc (by have : nm4.length = 4 := rfl; omega)
        · refine kx_iconst (pc := 48) (v := 3) (kx_dd d_Mo_roleAtHand 22 rfl) rfl ?_
          refine kx_goto (pc := 49) (tgt := 53) (kx_dd d_Mo_roleAtHand 23 rfl) rfl ?_
          refine kx_iret (pc := 53) rfl (kx_dd d_Mo_roleAtHand 25 rfl) (Nat.le_refl _) (Nat.le_refl _) ?_
          rw [bP_0, Classical.not_not, iw_22 hin] at c45
          exact ⟨by rw [chO_of (nm := nm4) (o := some 3) c45.1 c45.2 (by decide)]; rfl, rfl⟩
      · refine kx_iconst (pc := 35) (v := 2) (kx_dd d_Mo_roleAtHand 16 rfl) rfl ?_
        refine kx_goto (pc := 36) (tgt := 53) (kx_dd d_Mo_roleAtHand 17 rfl) rfl ?_
        refine kx_iret (pc := 53) rfl (kx_dd d_Mo_roleAtHand 25 rfl) (Nat.le_refl _) (Nat.le_refl _) ?_
        rw [bP_0, Classical.not_not, iw_21 hin] at c32
        exact ⟨by rw [chO_of (nm := nm4) (o := some 2) c32.1 c32.2 (by decide)]; rfl, rfl⟩
    · refine kx_iconst (pc := 22) (v := 1) (kx_dd d_Mo_roleAtHand 10 rfl) rfl ?_
      refine kx_goto (pc := 23) (tgt := 53) (kx_dd d_Mo_roleAtHand 11 rfl) rfl ?_
      refine kx_iret (pc := 53) rfl (kx_dd d_Mo_roleAtHand 25 rfl) (Nat.le_refl _) (Nat.le_refl _) ?_
      rw [bP_0, Classical.not_not, iw_20 hin] at c19
      exact ⟨by rw [chO_of (nm := nm4) (o := some 1) c19.1 c19.2 (by decide)]; rfl, rfl⟩
  · refine kx_iconst (pc := 9) (v := 0) (kx_dd d_Mo_roleAtHand 4 rfl) rfl ?_
    refine kx_goto (pc := 10) (tgt := 53) (kx_dd d_Mo_roleAtHand 5 rfl) rfl ?_
    refine kx_iret (pc := 53) rfl (kx_dd d_Mo_roleAtHand 25 rfl) (Nat.le_refl _) (Nat.le_refl _) ?_
    rw [bP_0, Classical.not_not, iw_19 hin] at c6
    exact ⟨by rw [chO_of (nm := nm4) (o := some 0) c6.1 c6.2 (by decide)]; rfl, rfl⟩
