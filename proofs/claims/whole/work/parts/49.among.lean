/-! words of the text: Tape.among, is of the reference -/
def amK (c : Nat → Int32) (w : Int64) : Nat → Nat → Nat → Nat → Int32
  | 0, _, nm, ix => if lN nm = w then nI ix else -1
  | f + 1, k, nm, ix => if c k = 32 then (if lN nm = w then nI ix else amK c w f (k + 1) 0 (ix + 1)) else amK c w f (k + 1) (nm * 32 + ((c k).toNatClampNeg - 96)) ix
theorem chS_id {x : Int32} (h : x = 32 ∨ isLe x = true) : chS x = x := by
  have : ∃ m : Nat, m < 128 ∧ x = nI m := by
    rcases h with h | h
    · exact ⟨32, by decide, h⟩
    · obtain ⟨m, h1, h2, h3⟩ := le_nat h
      exact ⟨m, by omega, h3⟩
  obtain ⟨m, hm, rfl⟩ := this
  unfold chS
  rw [sc_c2, show (255 : Int32) = nI (2 ^ 8 - 1) from rfl, nI_and, Nat.and_two_pow_sub_one_of_lt_two_pow (show m < 2 ^ 8 by omega)]
theorem le_not32 {x : Int32} (h : isLe x = true) : ¬ x = 32 := by
  intro e
  rw [e] at h
  exact absurd h (by decide)
/-- letters say one word -/
theorem wc_inj {b c : Nat → Int32} {p q : Nat} : ∀ m k, (∀ j, j < m → isLe (b (p + j)) = true) → (∀ j, j < k → isLe (c (q + j)) = true) → (wc b p m = wc c q k ↔ m = k ∧ ∀ j, j < m → b (p + j) = c (q + j))
  | 0, 0, _, _ => by simp [wc]
  | 0, k + 1, _, h2 => by
    obtain ⟨x, x1, x2, x3⟩ := le_nat (h2 k (by omega))
    simp only [wc]
    rw [x3, nI_clamp (by omega)]
    constructor
    · intro h; omega
    · intro h; omega
  | m + 1, 0, h1, _ => by
    obtain ⟨x, x1, x2, x3⟩ := le_nat (h1 m (by omega))
    simp only [wc]
    rw [x3, nI_clamp (by omega)]
    constructor
    · intro h; omega
    · intro h; omega
  | m + 1, k + 1, h1, h2 => by
    obtain ⟨x, x1, x2, x3⟩ := le_nat (h1 m (by omega))
    obtain ⟨y, y1, y2, y3⟩ := le_nat (h2 k (by omega))
    have ih := wc_inj m k (fun j hj => h1 j (by omega)) (fun j hj => h2 j (by omega))
    simp only [wc]
    rw [x3, y3, nI_clamp (by omega), nI_clamp (by omega)]
    constructor
    · intro h
      have e1 : wc b p m = wc c q k ∧ x = y := by omega
      obtain ⟨e2, e3⟩ := ih.mp e1.1
      refine ⟨by omega, fun j hj => ?_⟩
      by_cases hjm : j = m
      · subst hjm
        rw [x3, e1.2, e2, y3]
      · exact e3 j (by omega)
    · rintro ⟨e1, e2⟩
      have e3 := ih.mpr ⟨by omega, fun j hj => e2 j (by omega)⟩
      have e4 := e2 m (by omega)
      have : m = k := by omega
      rw [this] at e4
      rw [this] at x3
      rw [x3, y3, nI_eq (by omega) (by omega)] at e4
      omega
theorem x_Ta_am_loop {l : Launch} {g : kx_G} {d : Nat} {h : kx_Mem} (hs : SC h) {k i p : Nat} {o tx : String} {bs : List Int32} (hk : kx_stb[k]? = some (o, i, tx, p, bs)) (hb : ∀ j, j < bs.length → bs.getD j 0 = 32 ∨ isLe (bs.getD j 0) = true) (R : Int32) : ∀ f q, q + f = bs.length → ∀ nm ix w6, amK (fun j => bs.getD j 0) (h.2.1 1 6) f q nm ix = R → kx_X (l, g, m_Ta_among, d + 4, 0, 0, (fun v h' => v = some (.int R) ∧ h' = h)) 0 0 17 [some (.ref 1), some (.ref (1000000 + k)), some (.int (nI ix)), some (.long (lN nm)), none, some (.int (nI q)), w6] [] h := by
  have hlen := kx_stb_len hk
  intro f
  induction f with
  | zero =>
    intro q hq nm ix w6 he
    have hq0 : q = bs.length := by omega
    subst hq0
    refine kx_iload (pc := 17) (kx_dd d_Ta_among 12 rfl) rfl ?_
    refine kx_aload_n (pc := 19) (kx_dd d_Ta_among 13 rfl) rfl rfl ?_
    refine kx_invR (pc := 20) (a := (1000000 + k)) (as := []) (kx_dd d_Ta_among 14 rfl) ⟨lk_Ta_58, wi_Sg_length, we_Sg_length⟩ w_Sg_length (fun s H hK hR => kx_recvS hk hK hR) rfl rfl (Nat.le_of_ble_eq_true rfl) (x_Sg_length (d := d + 2) hk) (Nat.le_refl _) ⟨Nat.le_refl _, Nat.le_refl _⟩ (fun v h' hq => ?_)
    obtain ⟨rfl, hz⟩ := hq
    rw [hz]
    clear hz
    refine kx_icmp_ge (pc := 23) (tgt := 73) (kx_dd d_Ta_among 15 rfl) rfl (fun c23 => ?_) (fun c23 => ?_)
    · refine kx_lload_n (pc := 73) (kx_dd d_Ta_among 40 rfl) rfl rfl ?_
      refine kx_aload_n (pc := 74) (kx_dd d_Ta_among 41 rfl) rfl rfl ?_
      refine kx_getL (pc := 75) fl_Ta_35 (hs.k 1 rfl) rfl (kx_dd d_Ta_among 42 rfl) ?_
      refine kx_lcmp (pc := 78) (kx_dd d_Ta_among 43 rfl) ?_
      refine kx_if_ne (pc := 79) (tgt := 86) (kx_dd d_Ta_among 44 rfl) rfl (fun c79 => ?_) (fun c79 => ?_)
      · refine kx_iconst (pc := 86) (v := -1) (kx_dd d_Ta_among 47 rfl) rfl ?_
        refine kx_iret (pc := 87) rfl (kx_dd d_Ta_among 48 rfl) (Nat.le_refl _) (Nat.le_refl _) ?_
        rw [amK] at he
        rw [lg_cmp_eq] at c79
        rw [if_neg c79] at he
        exact ⟨by rw [← he], rfl⟩
      · refine kx_iload_n (pc := 82) (kx_dd d_Ta_among 45 rfl) rfl rfl ?_
        refine kx_goto (pc := 83) (tgt := 87) (kx_dd d_Ta_among 46 rfl) rfl ?_
        refine kx_iret (pc := 87) rfl (kx_dd d_Ta_among 48 rfl) (Nat.le_refl _) (Nat.le_refl _) ?_
        rw [amK] at he
        rw [lg_cmp_eq] at c79
        rw [if_pos c79] at he
        exact ⟨by rw [← he], rfl⟩
    · exact absurd (Int32.le_refl _) c23
  | succ f ih =>
    intro q hq0 nm ix w6 he
    have hbq := hb q (by omega)
    have hid := chS_id hbq
    rw [amK] at he
    refine kx_iload (pc := 17) (kx_dd d_Ta_among 12 rfl) rfl ?_
    refine kx_aload_n (pc := 19) (kx_dd d_Ta_among 13 rfl) rfl rfl ?_
    refine kx_invR (pc := 20) (a := (1000000 + k)) (as := []) (kx_dd d_Ta_among 14 rfl) ⟨lk_Ta_58, wi_Sg_length, we_Sg_length⟩ w_Sg_length (fun s H hK hR => kx_recvS hk hK hR) rfl rfl (Nat.le_of_ble_eq_true rfl) (x_Sg_length (d := d + 2) hk) (Nat.le_refl _) ⟨Nat.le_refl _, Nat.le_refl _⟩ (fun v h' hq => ?_)
    obtain ⟨rfl, hz⟩ := hq
    rw [hz]
    clear hz
    refine kx_icmp_ge (pc := 23) (tgt := 73) (kx_dd d_Ta_among 15 rfl) rfl (fun c23 => ?_) (fun c23 => ?_)
    · exact absurd c23 (nI_ge (by omega) (by omega))
    · refine kx_aload_n (pc := 26) (kx_dd d_Ta_among 16 rfl) rfl rfl ?_
      refine kx_iload (pc := 27) (kx_dd d_Ta_among 17 rfl) rfl ?_
      refine kx_invR (pc := 29) (a := (1000000 + k)) (as := [_]) (kx_dd d_Ta_among 18 rfl) ⟨lk_Ta_63, wi_Sg_charAt, we_Sg_charAt⟩ w_Sg_charAt (fun s H hK hR => kx_recvS hk hK hR) rfl rfl (Nat.le_of_ble_eq_true rfl) (x_Sg_charAt (d := d) hk q (by omega)) (Nat.le_refl _) ⟨Nat.le_refl _, Nat.le_refl _⟩ (fun v h' hq => ?_)
      obtain ⟨rfl, hz⟩ := hq
      rw [hz]
      clear hz
      refine kx_istore_e (pc := 32) (lv' := [_, _, _, _, _, _, _]) (kx_dd d_Ta_among 19 rfl) (Nat.le_of_ble_eq_true rfl) rfl ?_
      refine kx_iload (pc := 34) (kx_dd d_Ta_among 20 rfl) rfl ?_
      refine kx_bipush (pc := 36) (v := 32) (kx_dd d_Ta_among 21 rfl) rfl ?_
      refine kx_icmp_eq (pc := 38) (tgt := 51) (kx_dd d_Ta_among 22 rfl) rfl (fun c38 => ?_) (fun c38 => ?_)
      · refine kx_lload_n (pc := 51) (kx_dd d_Ta_among 28 rfl) rfl rfl ?_
        refine kx_aload_n (pc := 52) (kx_dd d_Ta_among 29 rfl) rfl rfl ?_
        refine kx_getL (pc := 53) fl_Ta_35 (hs.k 1 rfl) rfl (kx_dd d_Ta_among 30 rfl) ?_
        refine kx_lcmp (pc := 56) (kx_dd d_Ta_among 31 rfl) ?_
        refine kx_if_ne (pc := 57) (tgt := 62) (kx_dd d_Ta_among 32 rfl) rfl (fun c57 => ?_) (fun c57 => ?_)
        · refine kx_lconst (pc := 62) (v := 0) (kx_dd d_Ta_among 35 rfl) rfl ?_
          refine kx_lstore_ne (pc := 63) (lv' := [_, _, _, _, _, _, _]) (kx_dd d_Ta_among 36 rfl) rfl (Nat.le_of_ble_eq_true rfl) rfl ?_
          refine kx_iinc_e (pc := 64) (v := nI (ix + 1)) (lv' := [_, _, _, _, _, _, _]) (kx_dd d_Ta_among 37 rfl) rfl (Nat.le_of_ble_eq_true rfl) (nI_1 ix) rfl ?_
          refine kx_iinc_e (pc := 67) (v := nI (q + 1)) (lv' := [_, _, _, _, _, _, _]) (kx_dd d_Ta_among 38 rfl) rfl (Nat.le_of_ble_eq_true rfl) (nI_1 q) rfl ?_
          refine kx_goto (pc := 70) (tgt := 17) (kx_dd d_Ta_among 39 rfl) rfl ?_
          rw [hid] at c38
          rw [if_pos c38] at he
          rw [lg_cmp_eq] at c57
          rw [if_neg c57] at he
          exact ih (q + 1) (by omega) 0 (ix + 1) _ he
        · refine kx_iload_n (pc := 60) (kx_dd d_Ta_among 33 rfl) rfl rfl ?_
          refine kx_iret (pc := 61) rfl (kx_dd d_Ta_among 34 rfl) (Nat.le_refl _) (Nat.le_refl _) ?_
          rw [hid] at c38
          rw [if_pos c38] at he
          rw [lg_cmp_eq] at c57
          rw [if_pos c57] at he
          exact ⟨by rw [← he], rfl⟩
      · refine kx_lload_n (pc := 41) (kx_dd d_Ta_among 23 rfl) rfl rfl ?_
        refine kx_iload (pc := 42) (kx_dd d_Ta_among 24 rfl) rfl ?_
        refine kx_invS (pc := 44) (as := [_, _]) (kx_dd d_Ta_among 25 rfl) ⟨lk_Ta_51, wt_Ta_withLetter⟩ w_Ta_withLetter rfl rfl (Nat.le_of_ble_eq_true rfl) (x_Ta_withLetter (d := d + 3) _ _) (Nat.le_refl _) ⟨Nat.le_refl _, Nat.le_refl _⟩ (fun v h' hq => ?_)
        obtain ⟨rfl, hz⟩ := hq
        rw [hz]
        clear hz
        refine kx_lstore_ne (pc := 47) (lv' := [_, _, _, _, _, _, _]) (kx_dd d_Ta_among 26 rfl) rfl (Nat.le_of_ble_eq_true rfl) rfl ?_
        refine kx_goto (pc := 48) (tgt := 67) (kx_dd d_Ta_among 27 rfl) rfl ?_
        refine kx_iinc_e (pc := 67) (v := nI (q + 1)) (lv' := [_, _, _, _, _, _, _]) (kx_dd d_Ta_among 38 rfl) rfl (Nat.le_of_ble_eq_true rfl) (nI_1 q) rfl ?_
        refine kx_goto (pc := 70) (tgt := 17) (kx_dd d_Ta_among 39 rfl) rfl ?_
        rw [hid] at c38
        rw [if_neg c38] at he
        rcases hbq with z | z
        · exact absurd z c38
        obtain ⟨x, x1, x2, x3⟩ := le_nat z
        rw [x3, nI_clamp (by omega)] at he
        rw [hid, x3, withL x1 x2]
        exact ih (q + 1) (by omega) _ _ _ he
theorem x_Ta_among {l : Launch} {g : kx_G} {d : Nat} {h : kx_Mem} (hs : SC h) {k i p : Nat} {o tx : String} {bs : List Int32} (hk : kx_stb[k]? = some (o, i, tx, p, bs)) (hb : ∀ j, j < bs.length → bs.getD j 0 = 32 ∨ isLe (bs.getD j 0) = true) : kx_Sp l g m_Ta_among [.ref 1, .ref (1000000 + k)] h (d + 4) 0 0 (fun v h' => v = some (.int (if h.1 1 3 = 1 then amK (fun j => bs.getD j 0) (h.2.1 1 6) bs.length 0 0 0 else -1)) ∧ h' = h) := by
  refine kx_enter_e (lv := [_, _, _, _, _, _, _]) (by decide +kernel) (Nat.le_of_ble_eq_true rfl) rfl ?_
  refine kx_aload_n (pc := 0) (kx_dd d_Ta_among 0 rfl) rfl rfl ?_
  refine kx_getI (pc := 1) fl_Ta_32 (hs.k 1 rfl) rfl (kx_dd d_Ta_among 1 rfl) ?_
  refine kx_iconst (pc := 4) (v := 1) (kx_dd d_Ta_among 2 rfl) rfl ?_
  refine kx_icmp_eq (pc := 5) (tgt := 10) (kx_dd d_Ta_among 3 rfl) rfl (fun c5 => ?_) (fun c5 => ?_)
  · refine kx_iconst (pc := 10) (v := 0) (kx_dd d_Ta_among 6 rfl) rfl ?_
    refine kx_istore_ne (pc := 11) (lv' := [_, _, _, _, _, _, _]) (kx_dd d_Ta_among 7 rfl) rfl (Nat.le_of_ble_eq_true rfl) rfl ?_
    refine kx_lconst (pc := 12) (v := 0) (kx_dd d_Ta_among 8 rfl) rfl ?_
    refine kx_lstore_ne (pc := 13) (lv' := [_, _, _, _, _, _, _]) (kx_dd d_Ta_among 9 rfl) rfl (Nat.le_of_ble_eq_true rfl) rfl ?_
    refine kx_iconst (pc := 14) (v := 0) (kx_dd d_Ta_among 10 rfl) rfl ?_
    refine kx_istore_e (pc := 15) (lv' := [_, _, _, _, _, _, _]) (kx_dd d_Ta_among 11 rfl) (Nat.le_of_ble_eq_true rfl) rfl ?_
    rw [if_pos c5]
    exact x_Ta_am_loop hs hk hb _ bs.length 0 (by omega) 0 0 _ rfl
  · refine kx_iconst (pc := 8) (v := -1) (kx_dd d_Ta_among 4 rfl) rfl ?_
    refine kx_iret (pc := 9) rfl (kx_dd d_Ta_among 5 rfl) (Nat.le_refl _) (Nat.le_refl _) ?_
    exact ⟨by rw [if_neg c5], rfl⟩
def isP (b : Nat → Int32) (n i : Nat) (bs : List Int32) : Prop := tK b n i = 1 ∧ tE b n i - tP b n i = bs.length ∧ ∀ j, j < bs.length → b (tP b n i + j) = bs.getD j 0
def cdS (bs : List Int32) : Nat := wc (fun j => bs.getD j 0) 0 bs.length
theorem tK1 {b : Nat → Int32} {n i : Nat} (h : i ≤ n) (hk : tK b n i = 1) : tP b n i < tE b n i ∧ tE b n i ≤ n ∧ tE b n i - tP b n i ≤ 12 ∧ (∀ j, j < tE b n i - tP b n i → isLe (b (tP b n i + j)) = true) ∧ (tE b n i < n → ¬ isLe (b (tE b n i)) = true) := by
  have h1 := tP_le (b := b) h
  have h2 := tE_le (b := b) h
  unfold tK at hk
  by_cases c1 : n ≤ tP b n i
  · rw [if_pos c1] at hk; omega
  rw [if_neg c1] at hk
  by_cases c2 : isLe (b (tP b n i)) = true
  · rw [if_pos c2] at hk
    have e : tE b n i = run isLe b n (tP b n i) := by
      unfold tE
      rw [if_neg c1, if_pos c2]
    by_cases c3 : 12 < tE b n i - tP b n i
    · rw [if_pos c3] at hk; omega
    · refine ⟨h2.2.2 (by omega), h2.2.1, by omega, fun j hj => ?_, fun z => ?_⟩
      · exact run_all (P := isLe) (b := b) h1.2 _ (by omega) (by rw [← e]; omega)
      · rw [e] at z ⊢
        exact run_stop h1.2 z
  · rw [if_neg c2] at hk
    exfalso
    revert hk
    split
    · split <;> omega
    · split <;> omega
theorem isP_i {b : Nat → Int32} {n i : Nat} {bs : List Int32} (h : i ≤ n) (hb : ∀ j, j < bs.length → isLe (bs.getD j 0) = true) : isP b n i bs ↔ tK b n i = 1 ∧ tW b n i = cdS bs := by
  unfold isP tW cdS
  constructor
  · rintro ⟨h1, h2, h3⟩
    obtain ⟨-, -, -, h4, -⟩ := tK1 h h1
    refine ⟨h1, (wc_inj _ _ h4 (fun j hj => by rw [Nat.zero_add]; exact hb j hj)).mpr ⟨h2, fun j hj => ?_⟩⟩
    rw [Nat.zero_add]
    exact h3 j (by omega)
  · rintro ⟨h1, h2⟩
    obtain ⟨-, -, -, h4, -⟩ := tK1 h h1
    obtain ⟨e1, e2⟩ := (wc_inj _ _ h4 (fun j hj => by rw [Nat.zero_add]; exact hb j hj)).mp h2
    refine ⟨h1, e1, fun j hj => ?_⟩
    have := e2 j (by omega)
    rwa [Nat.zero_add] at this
theorem y_is_loop {l : Launch} {g : kx_G} {d : Nat} {h : kx_Mem} (hm : SM h) (b : Nat → Int32) (n i9 : Nat) (ht : h.1 84 6 = nI n ∧ n ≤ 600 ∧ ∀ k, k < n → h.1 88 k = b k) (hin : i9 ≤ n) (hto : TokM b n i9 h) {k i p : Nat} {o tx : String} {bs : List Int32} (hk : kx_stb[k]? = some (o, i, tx, p, bs)) (hb : ∀ j, j < bs.length → isLe (bs.getD j 0) = true) (hk1 : tK b n i9 = 1) (hl1 : tE b n i9 - tP b n i9 = bs.length) : ∀ f q, q + f = bs.length → kx_X (l, g, m_Mo_is, d + 4, 0, 0, (fun v h' => v = some (.int (bP (isP b n i9 bs))) ∧ h' = h)) 0 0 32 [some (.ref 84), some (.ref (1000000 + k)), some (.int (bP (∀ j, j < q → b (tP b n i9 + j) = bs.getD j 0))), some (.int (nI q))] [] h := by
  have hlen := kx_stb_len hk
  have hP := tP_le (b := b) hin
  have hE := tE_le (b := b) hin
  obtain ⟨t1, t2, t3, t4⟩ := id hto
  intro f
  induction f with
  | zero =>
    intro q hq
    have hq0 : q = bs.length := by omega
    subst hq0
    refine kx_iload_n (pc := 32) (kx_dd d_Mo_is 18 rfl) rfl rfl ?_
    refine kx_aload_n (pc := 33) (kx_dd d_Mo_is 19 rfl) rfl rfl ?_
    refine kx_invR (pc := 34) (a := (1000000 + k)) (as := []) (kx_dd d_Mo_is 20 rfl) ⟨lk_Mo_63, wi_Sg_length, we_Sg_length⟩ w_Sg_length (fun s H hK hR => kx_recvS hk hK hR) rfl rfl (Nat.le_of_ble_eq_true rfl) (x_Sg_length (d := d + 2) hk) (Nat.le_refl _) ⟨Nat.le_refl _, Nat.le_refl _⟩ (fun v h' hq => ?_)
    obtain ⟨rfl, hz⟩ := hq
    rw [hz]
    clear hz
    refine kx_icmp_ge (pc := 37) (tgt := 75) (kx_dd d_Mo_is 21 rfl) rfl (fun c37 => ?_) (fun c37 => ?_)
    · refine kx_iload_n (pc := 75) (kx_dd d_Mo_is 41 rfl) rfl rfl ?_
      refine kx_zret (pc := 76) rfl (nar_bP _) (kx_dd d_Mo_is 42 rfl) (Nat.le_refl _) (Nat.le_refl _) ?_
      exact ⟨by rw [bP_c (show isP b n i9 bs ↔ ∀ j, j < bs.length → b (tP b n i9 + j) = bs.getD j 0 from ⟨fun z => z.2.2, fun z => ⟨hk1, hl1, z⟩⟩)], rfl⟩
    · exact absurd (Int32.le_refl _) c37
  | succ f ih =>
    intro q hq0
    refine kx_iload_n (pc := 32) (kx_dd d_Mo_is 18 rfl) rfl rfl ?_
    refine kx_aload_n (pc := 33) (kx_dd d_Mo_is 19 rfl) rfl rfl ?_
    refine kx_invR (pc := 34) (a := (1000000 + k)) (as := []) (kx_dd d_Mo_is 20 rfl) ⟨lk_Mo_63, wi_Sg_length, we_Sg_length⟩ w_Sg_length (fun s H hK hR => kx_recvS hk hK hR) rfl rfl (Nat.le_of_ble_eq_true rfl) (x_Sg_length (d := d + 2) hk) (Nat.le_refl _) ⟨Nat.le_refl _, Nat.le_refl _⟩ (fun v h' hq => ?_)
    obtain ⟨rfl, hz⟩ := hq
    rw [hz]
    clear hz
    refine kx_icmp_ge (pc := 37) (tgt := 75) (kx_dd d_Mo_is 21 rfl) rfl (fun c37 => ?_) (fun c37 => ?_)
    · exact absurd c37 (nI_ge (by omega) (by omega))
    · refine kx_iload_n (pc := 40) (kx_dd d_Mo_is 22 rfl) rfl rfl ?_
      refine kx_if_eq (pc := 41) (tgt := 75) (kx_dd d_Mo_is 23 rfl) rfl (fun c41 => ?_) (fun c41 => ?_)
      · refine kx_iload_n (pc := 75) (kx_dd d_Mo_is 41 rfl) rfl rfl ?_
        refine kx_zret (pc := 76) rfl (nar_bP _) (kx_dd d_Mo_is 42 rfl) (Nat.le_refl _) (Nat.le_refl _) ?_
        rw [bP_0] at c41
        exact ⟨by rw [bP_f c41, bP_f (fun z => c41 (fun j hj => z.2.2 j (by omega)))], rfl⟩
      · refine kx_aload_n (pc := 44) (kx_dd d_Mo_is 24 rfl) rfl rfl ?_
        refine kx_getR (pc := 45) (b := 88) fl_Mo_21 (hm.k 0 rfl) rfl (hm.r 3 rfl) (kx_dd d_Mo_is 25 rfl) ?_
        refine kx_aload_n (pc := 48) (kx_dd d_Mo_is 26 rfl) rfl rfl ?_
        refine kx_getI (pc := 49) fl_Mo_27 (hm.k 0 rfl) rfl (kx_dd d_Mo_is 27 rfl) ?_
        refine kx_iload_n (pc := 52) (kx_dd d_Mo_is 28 rfl) rfl rfl ?_
        refine kx_iadd (pc := 53) (kx_dd d_Mo_is 29 rfl) ?_
        refine kx_baldn (pc := 54) (tP b n i9 + q) (hm.t 4 rfl) (by rw [t3, nI_add]) (by omega) (by decide) (kx_dd d_Mo_is 30 rfl) ?_
        refine kx_aload_n (pc := 55) (kx_dd d_Mo_is 31 rfl) rfl rfl ?_
        refine kx_iload_n (pc := 56) (kx_dd d_Mo_is 32 rfl) rfl rfl ?_
        refine kx_invR (pc := 57) (a := (1000000 + k)) (as := [_]) (kx_dd d_Mo_is 33 rfl) ⟨lk_Mo_69, wi_Sg_charAt, we_Sg_charAt⟩ w_Sg_charAt (fun s H hK hR => kx_recvS hk hK hR) rfl rfl (Nat.le_of_ble_eq_true rfl) (x_Sg_charAt (d := d) hk q (by omega)) (Nat.le_refl _) ⟨Nat.le_refl _, Nat.le_refl _⟩ (fun v h' hq => ?_)
        obtain ⟨rfl, hz⟩ := hq
        rw [hz]
        clear hz
        refine kx_icmp_ne (pc := 60) (tgt := 67) (kx_dd d_Mo_is 34 rfl) rfl (fun c60 => ?_) (fun c60 => ?_)
        · refine kx_iconst (pc := 67) (v := 0) (kx_dd d_Mo_is 37 rfl) rfl ?_
          refine kx_istore_ne (pc := 68) (lv' := [_, _, _, _]) (kx_dd d_Mo_is 38 rfl) rfl (Nat.le_of_ble_eq_true rfl) rfl ?_
          refine kx_iinc_e (pc := 69) (v := nI (q + 1)) (lv' := [_, _, _, _]) (kx_dd d_Mo_is 39 rfl) rfl (Nat.le_of_ble_eq_true rfl) (nI_1 q) rfl ?_
          refine kx_goto (pc := 72) (tgt := 32) (kx_dd d_Mo_is 40 rfl) rfl ?_
          rw [bP_0, Classical.not_not] at c41
          rw [ht.2.2 _ (by omega), chS_id (Or.inr (hb q (by omega)))] at c60
          have e9 : bP (∀ j, j < q + 1 → b (tP b n i9 + j) = bs.getD j 0) = 0 := bP_f (fun z => c60 (z q (by omega)))
          have ih1 := ih (q + 1) (by omega)
          rw [e9] at ih1
          exact ih1
        · refine kx_iconst (pc := 63) (v := 1) (kx_dd d_Mo_is 35 rfl) rfl ?_
          refine kx_goto (pc := 64) (tgt := 68) (kx_dd d_Mo_is 36 rfl) rfl ?_
          refine kx_istore_ne (pc := 68) (lv' := [_, _, _, _]) (kx_dd d_Mo_is 38 rfl) rfl (Nat.le_of_ble_eq_true rfl) rfl ?_
          refine kx_iinc_e (pc := 69) (v := nI (q + 1)) (lv' := [_, _, _, _]) (kx_dd d_Mo_is 39 rfl) rfl (Nat.le_of_ble_eq_true rfl) (nI_1 q) rfl ?_
          refine kx_goto (pc := 72) (tgt := 32) (kx_dd d_Mo_is 40 rfl) rfl ?_
          rw [bP_0, Classical.not_not] at c41
          rw [ht.2.2 _ (by omega), chS_id (Or.inr (hb q (by omega)))] at c60
          have e9 : bP (∀ j, j < q + 1 → b (tP b n i9 + j) = bs.getD j 0) = 1 := bP_t (fun j hj => by
            by_cases z : j = q
            · rw [z]; exact c60
            · exact c41 j (by omega))
          have ih1 := ih (q + 1) (by omega)
          rw [e9] at ih1
          exact ih1
theorem y_is_no {l : Launch} {g : kx_G} {d : Nat} {h : kx_Mem} (hm : SM h) (b : Nat → Int32) (n i9 : Nat) (ht : h.1 84 6 = nI n ∧ n ≤ 600 ∧ ∀ k, k < n → h.1 88 k = b k) (hin : i9 ≤ n) (hto : TokM b n i9 h) {k i p : Nat} {o tx : String} {bs : List Int32} (hk : kx_stb[k]? = some (o, i, tx, p, bs)) (hb : ∀ j, j < bs.length → isLe (bs.getD j 0) = true) (hno : ¬ isP b n i9 bs) : kx_X (l, g, m_Mo_is, d + 4, 0, 0, (fun v h' => v = some (.int (bP (isP b n i9 bs))) ∧ h' = h)) 0 0 32 [some (.ref 84), some (.ref (1000000 + k)), some (.int 0), some (.int 0)] [] h := by
  have hlen := kx_stb_len hk
  refine kx_iload_n (pc := 32) (kx_dd d_Mo_is 18 rfl) rfl rfl ?_
  refine kx_aload_n (pc := 33) (kx_dd d_Mo_is 19 rfl) rfl rfl ?_
  refine kx_invR (pc := 34) (a := (1000000 + k)) (as := []) (kx_dd d_Mo_is 20 rfl) ⟨lk_Mo_63, wi_Sg_length, we_Sg_length⟩ w_Sg_length (fun s H hK hR => kx_recvS hk hK hR) rfl rfl (Nat.le_of_ble_eq_true rfl) (x_Sg_length (d := d + 2) hk) (Nat.le_refl _) ⟨Nat.le_refl _, Nat.le_refl _⟩ (fun v h' hq => ?_)
  obtain ⟨rfl, hz⟩ := hq
  rw [hz]
  clear hz
  refine kx_icmp_ge (pc := 37) (tgt := 75) (kx_dd d_Mo_is 21 rfl) rfl (fun c37 => ?_) (fun c37 => ?_)
  · refine kx_iload_n (pc := 75) (kx_dd d_Mo_is 41 rfl) rfl rfl ?_
    refine kx_zret (pc := 76) rfl rfl (kx_dd d_Mo_is 42 rfl) (Nat.le_refl _) (Nat.le_refl _) ?_
    exact ⟨by rw [bP_f hno], rfl⟩
  · refine kx_iload_n (pc := 40) (kx_dd d_Mo_is 22 rfl) rfl rfl ?_
    refine kx_if_eq (pc := 41) (tgt := 75) (kx_dd d_Mo_is 23 rfl) rfl (fun c41 => ?_) (fun c41 => ?_)
    · refine kx_iload_n (pc := 75) (kx_dd d_Mo_is 41 rfl) rfl rfl ?_
      refine kx_zret (pc := 76) rfl rfl (kx_dd d_Mo_is 42 rfl) (Nat.le_refl _) (Nat.le_refl _) ?_
      exact ⟨by rw [bP_f hno], rfl⟩
    · exact absurd rfl c41
theorem y_is {l : Launch} {g : kx_G} {d : Nat} {h : kx_Mem} (hm : SM h) (b : Nat → Int32) (n i9 : Nat) (ht : h.1 84 6 = nI n ∧ n ≤ 600 ∧ ∀ k, k < n → h.1 88 k = b k) (hin : i9 ≤ n) (hto : TokM b n i9 h) {k i p : Nat} {o tx : String} {bs : List Int32} (hk : kx_stb[k]? = some (o, i, tx, p, bs)) (hb : ∀ j, j < bs.length → isLe (bs.getD j 0) = true) : kx_Sp l g m_Mo_is [.ref 84, .ref (1000000 + k)] h (d + 4) 0 0 (fun v h' => v = some (.int (bP (isP b n i9 bs))) ∧ h' = h) := by
  have hlen := kx_stb_len hk
  have hP := tP_le (b := b) hin
  have hE := tE_le (b := b) hin
  obtain ⟨t1, t2, t3, t4⟩ := id hto
  refine kx_enter_e (lv := [_, _, _, _]) (by decide +kernel) (Nat.le_of_ble_eq_true rfl) rfl ?_
  refine kx_aload_n (pc := 0) (kx_dd d_Mo_is 0 rfl) rfl rfl ?_
  refine kx_getI (pc := 1) fl_Mo_50 (hm.k 0 rfl) rfl (kx_dd d_Mo_is 1 rfl) ?_
  refine kx_iconst (pc := 4) (v := 1) (kx_dd d_Mo_is 2 rfl) rfl ?_
  refine kx_icmp_ne (pc := 5) (tgt := 28) (kx_dd d_Mo_is 3 rfl) rfl (fun c5 => ?_) (fun c5 => ?_)
  · refine kx_iconst (pc := 28) (v := 0) (kx_dd d_Mo_is 14 rfl) rfl ?_
    refine kx_istore_ne (pc := 29) (lv' := [_, _, _, _]) (kx_dd d_Mo_is 15 rfl) rfl (Nat.le_of_ble_eq_true rfl) rfl ?_
    refine kx_iconst (pc := 30) (v := 0) (kx_dd d_Mo_is 16 rfl) rfl ?_
    refine kx_istore_ne (pc := 31) (lv' := [_, _, _, _]) (kx_dd d_Mo_is 17 rfl) rfl (Nat.le_of_ble_eq_true rfl) rfl ?_
    rw [t2, show (1 : Int32) = nI 1 from rfl, nI_eq (by have := tK_le (b := b) (n := n) (i := i9); omega) (by decide)] at c5
    exact y_is_no hm b n i9 ht hin hto hk hb (fun z => c5 z.1)
  · refine kx_aload_n (pc := 8) (kx_dd d_Mo_is 4 rfl) rfl rfl ?_
    refine kx_getI (pc := 9) fl_Mo_43 (hm.k 0 rfl) rfl (kx_dd d_Mo_is 5 rfl) ?_
    refine kx_aload_n (pc := 12) (kx_dd d_Mo_is 6 rfl) rfl rfl ?_
    refine kx_getI (pc := 13) fl_Mo_27 (hm.k 0 rfl) rfl (kx_dd d_Mo_is 7 rfl) ?_
    refine kx_isub (pc := 16) (kx_dd d_Mo_is 8 rfl) ?_
    refine kx_aload_n (pc := 17) (kx_dd d_Mo_is 9 rfl) rfl rfl ?_
    refine kx_invR (pc := 18) (a := (1000000 + k)) (as := []) (kx_dd d_Mo_is 10 rfl) ⟨lk_Mo_63, wi_Sg_length, we_Sg_length⟩ w_Sg_length (fun s H hK hR => kx_recvS hk hK hR) rfl rfl (Nat.le_of_ble_eq_true rfl) (x_Sg_length (d := d + 2) hk) (Nat.le_refl _) ⟨Nat.le_refl _, Nat.le_refl _⟩ (fun v h' hq => ?_)
    obtain ⟨rfl, hz⟩ := hq
    rw [hz]
    clear hz
    refine kx_icmp_ne (pc := 21) (tgt := 28) (kx_dd d_Mo_is 11 rfl) rfl (fun c21 => ?_) (fun c21 => ?_)
    · refine kx_iconst (pc := 28) (v := 0) (kx_dd d_Mo_is 14 rfl) rfl ?_
      refine kx_istore_ne (pc := 29) (lv' := [_, _, _, _]) (kx_dd d_Mo_is 15 rfl) rfl (Nat.le_of_ble_eq_true rfl) rfl ?_
      refine kx_iconst (pc := 30) (v := 0) (kx_dd d_Mo_is 16 rfl) rfl ?_
      refine kx_istore_ne (pc := 31) (lv' := [_, _, _, _]) (kx_dd d_Mo_is 17 rfl) rfl (Nat.le_of_ble_eq_true rfl) rfl ?_
      rw [t2, show (1 : Int32) = nI 1 from rfl, nI_eq (by have := tK_le (b := b) (n := n) (i := i9); omega) (by decide)] at c5
      rw [t1, t3, pk_sub hE.1, nI_eq (by omega) (by omega)] at c21
      exact y_is_no hm b n i9 ht hin hto hk hb (fun z => c21 z.2.1)
    · refine kx_iconst (pc := 24) (v := 1) (kx_dd d_Mo_is 12 rfl) rfl ?_
      refine kx_goto (pc := 25) (tgt := 29) (kx_dd d_Mo_is 13 rfl) rfl ?_
      refine kx_istore_ne (pc := 29) (lv' := [_, _, _, _]) (kx_dd d_Mo_is 15 rfl) rfl (Nat.le_of_ble_eq_true rfl) rfl ?_
      refine kx_iconst (pc := 30) (v := 0) (kx_dd d_Mo_is 16 rfl) rfl ?_
      refine kx_istore_ne (pc := 31) (lv' := [_, _, _, _]) (kx_dd d_Mo_is 17 rfl) rfl (Nat.le_of_ble_eq_true rfl) rfl ?_
      rw [t2, show (1 : Int32) = nI 1 from rfl, nI_eq (by have := tK_le (b := b) (n := n) (i := i9); omega) (by decide)] at c5
      rw [t1, t3, pk_sub hE.1, nI_eq (by omega) (by omega)] at c21
      have k1 := y_is_loop (l := l) (g := g) (d := d) hm b n i9 ht hin hto hk hb c5 c21 bs.length 0 (by omega)
      rw [bP_t (fun j hj => absurd hj (Nat.not_lt_zero j))] at k1
      exact k1
