/-! the tape on both sides: fed, cut, opened -/
theorem y_lay_loop {l : Launch} {g : kx_G} {d : Nat} {h0 : kx_Mem} (hm0 : SM h0) (b : Nat → Int32) (n : Nat) (w : Int32) (hn : n + 4 ≤ 600) : ∀ f k, k + f = 4 → ∀ h, kx_Fc (fun a j => a = 88 ∨ (a = 84 ∧ j = 5)) h0 h → h.1 84 5 = nI (n + k) → (∀ j, j < n + k → h.1 88 j = ext4 b n w j) → kx_X (l, g, m_Mo_lay, d, 0, 0, (fun v h' => v = none ∧ h'.1 84 5 = nI (n + 4) ∧ (∀ j, j < n + 4 → h'.1 88 j = ext4 b n w j) ∧ kx_Fc (fun a j => a = 88 ∨ (a = 84 ∧ j = 5)) h0 h')) 0 0 3 [some (.ref 84), some (.int w), some (.int (sh8 k))] [] h := by
  intro f
  induction f with
  | zero =>
    intro k hk h hf h1 h2
    have hk4 : k = 4 := by omega
    subst hk4
    have hs := hm0.fc hf
    refine kx_iload_n (pc := 3) (kx_dd d_Mo_lay 2 rfl) rfl rfl ?_
    refine kx_if_lt (pc := 4) (tgt := 36) (kx_dd d_Mo_lay 3 rfl) rfl (fun c4 => ?_) (fun c4 => ?_)
    · refine kx_vret (pc := 36) rfl (kx_dd d_Mo_lay 21 rfl) (Nat.le_refl _) (Nat.le_refl _) ?_
      exact ⟨rfl, h1, h2, hf⟩
    · exact absurd (show (-8 : Int32) < 0 by decide) c4
  | succ f ih =>
    intro k hk h hf h1 h2
    have hs := hm0.fc hf
    have es := sh8_n (show k < 4 by omega)
    refine kx_iload_n (pc := 3) (kx_dd d_Mo_lay 2 rfl) rfl rfl ?_
    refine kx_if_lt (pc := 4) (tgt := 36) (kx_dd d_Mo_lay 3 rfl) rfl (fun c4 => ?_) (fun c4 => ?_)
    · exact absurd c4 (by rw [es]; exact nI_pos (by omega))
    · refine kx_aload_n (pc := 7) (kx_dd d_Mo_lay 4 rfl) rfl rfl ?_
      refine kx_getR (pc := 8) (b := 88) fl_Mo_21 (hs.k 0 rfl) rfl (hs.r 3 rfl) (kx_dd d_Mo_lay 5 rfl) ?_
      refine kx_aload_n (pc := 11) (kx_dd d_Mo_lay 6 rfl) rfl rfl ?_
      refine kx_getI (pc := 12) fl_Mo_37 (hs.k 0 rfl) rfl (kx_dd d_Mo_lay 7 rfl) ?_
      refine kx_iload_n (pc := 15) (kx_dd d_Mo_lay 8 rfl) rfl rfl ?_
      refine kx_iload_n (pc := 16) (kx_dd d_Mo_lay 9 rfl) rfl rfl ?_
      refine kx_ishr (pc := 17) (kx_dd d_Mo_lay 10 rfl) ?_
      refine kx_i2b (pc := 18) (kx_dd d_Mo_lay 11 rfl) ?_
      refine kx_bastn (pc := 19) (n + k) (hs.t 4 rfl) (by decide) h1 (by omega) (by decide) (kx_dd d_Mo_lay 12 rfl) ?_
      refine kx_aload_n (pc := 20) (kx_dd d_Mo_lay 13 rfl) rfl rfl ?_
      refine kx_dup (pc := 21) (kx_dd d_Mo_lay 14 rfl) rfl ?_
      refine kx_getI (pc := 22) fl_Mo_37 (hs.k 0 rfl) rfl (kx_dd d_Mo_lay 15 rfl) ?_
      refine kx_iconst (pc := 25) (v := 1) (kx_dd d_Mo_lay 16 rfl) rfl ?_
      refine kx_iadd (pc := 26) (kx_dd d_Mo_lay 17 rfl) ?_
      refine kx_putI (pc := 27) fl_Mo_37 (hs.k 0 rfl) (by decide) rfl rfl (kx_dd d_Mo_lay 18 rfl) ?_
      refine kx_iinc_e (pc := 30) (v := sh8 (k + 1)) (lv' := [_, _, _]) (kx_dd d_Mo_lay 19 rfl) rfl (Nat.le_of_ble_eq_true rfl) (sh8_s (by omega)) rfl ?_
      refine kx_goto (pc := 33) (tgt := 3) (kx_dd d_Mo_lay 20 rfl) rfl ?_
      have e1 : (vp_nar .byte (w >>> (sh8 k &&& 31)).toInt8.toInt32) = by4 w k := by rw [es]; exact pk_vb _
      rw [e1, show (kx_setI h 88 (n + k) (by4 w k)).1 84 5 = nI (n + k) from h1, nI_1]
      refine ih (k + 1) (by omega) _ ((hf.tr (kx_Fc.set (Or.inl rfl))).tr (kx_Fc.set (Or.inr ⟨rfl, rfl⟩))) ?_ ?_
      · simp [kx_setI, kx_up, Nat.add_assoc]
      · intro j hj
        have := h2 j
        simp only [kx_setI, kx_up, ext4] at this ⊢
        grind
theorem y_lay {l : Launch} {g : kx_G} {d : Nat} {h : kx_Mem} (hm0 : SM h) (b : Nat → Int32) (n : Nat) (w : Int32) (hn : n + 4 ≤ 600) (h1 : h.1 84 5 = nI n) (h2 : ∀ j, j < n → h.1 88 j = b j) : kx_Sp l g m_Mo_lay [.ref 84, .int w] h (d) 0 0 (fun v h' => v = none ∧ h'.1 84 5 = nI (n + 4) ∧ (∀ j, j < n + 4 → h'.1 88 j = ext4 b n w j) ∧ kx_Fc (fun a j => a = 88 ∨ (a = 84 ∧ j = 5)) h h') := by
  refine kx_enter_e (lv := [_, _, _]) (by decide +kernel) (Nat.le_of_ble_eq_true rfl) rfl ?_
  refine kx_bipush (pc := 0) (v := 24) (kx_dd d_Mo_lay 0 rfl) rfl ?_
  refine kx_istore_ne (pc := 2) (lv' := [_, _, _]) (kx_dd d_Mo_lay 1 rfl) rfl (Nat.le_of_ble_eq_true rfl) rfl ?_
  refine y_lay_loop hm0 b n w hn 4 0 (by omega) h kx_Fc.rf h1 (fun j hj => ?_)
  rw [h2 j hj]
  exact (if_neg (by omega)).symm
def fed (b : Nat → Int32) (n : Nat) (a1 a2 a3 a4 a5 : Int32) : Nat → Int32 := ext4 (ext4 (ext4 (ext4 (ext4 b n a1) (n + 4) a2) (n + 8) a3) (n + 12) a4) (n + 16) a5
theorem BY_ext {b : Nat → Int32} (h : BY b) (n : Nat) (v : Int32) : BY (ext4 b n v) := by
  intro k
  unfold ext4
  split
  · exact BY4 v _
  · exact h k
theorem BY_fed {b : Nat → Int32} (h : BY b) (n : Nat) (a1 a2 a3 a4 a5 : Int32) : BY (fed b n a1 a2 a3 a4 a5) := BY_ext (BY_ext (BY_ext (BY_ext (BY_ext h _ _) _ _) _ _) _ _) _ _
theorem x_Ta_append {l : Launch} {g : kx_G} {d : Nat} {h : kx_Mem} (hs : SC h) (b : Nat → Int32) (n : Nat) (hn0 : n ≤ 600) (h1 : h.1 1 1 = nI n) (h2 : ∀ j, j < n → h.1 2 j = b j) (a1 a2 a3 a4 a5 : Int32) : kx_Sp l g m_Ta_append [.ref 1, .int a1, .int a2, .int a3, .int a4, .int a5] h (d + 1) 0 0 (fun v h' => (n + 20 ≤ 600 → v = some (.int (nI (n + 20))) ∧ h'.1 1 1 = nI (n + 20) ∧ (∀ j, j < n + 20 → h'.1 2 j = fed b n a1 a2 a3 a4 a5 j) ∧ kx_Fc (fun a j => a = 2 ∨ (a = 1 ∧ j = 1)) h h') ∧ (¬ n + 20 ≤ 600 → v = some (.int (-3)) ∧ h' = h)) := by
  refine kx_enter_e (lv := [_, _, _, _, _, _]) (by decide +kernel) (Nat.le_of_ble_eq_true rfl) rfl ?_
  refine kx_aload_n (pc := 0) (kx_dd d_Ta_append 0 rfl) rfl rfl ?_
  refine kx_getI (pc := 1) fl_Ta_15 (hs.k 1 rfl) rfl (kx_dd d_Ta_append 1 rfl) ?_
  refine kx_bipush (pc := 4) (v := 20) (kx_dd d_Ta_append 2 rfl) rfl ?_
  refine kx_iadd (pc := 6) (kx_dd d_Ta_append 3 rfl) ?_
  refine kx_sipush (pc := 7) (v := 600) (kx_dd d_Ta_append 4 rfl) rfl ?_
  refine kx_icmp_le (pc := 10) (tgt := 16) (kx_dd d_Ta_append 5 rfl) rfl (fun c10 => ?_) (fun c10 => ?_)
  · have hn : n + 20 ≤ 600 := by
      rw [h1, show (20 : Int32) = nI 20 from rfl, nI_add] at c10
      exact (nI_leI (b := 600) (by omega) (by decide)).mp c10
    refine kx_aload_n (pc := 16) (kx_dd d_Ta_append 8 rfl) rfl rfl ?_
    refine kx_iload_n (pc := 17) (kx_dd d_Ta_append 9 rfl) rfl rfl ?_
    refine kx_invV (pc := 18) (a := 1) (as := [_]) (kx_dd d_Ta_append 10 rfl) ⟨lk_Ta_19, wi_Ta_put, we_Ta_put⟩ w_Ta_put (hs.k 1 rfl) rfl rfl rfl rfl (Nat.le_of_ble_eq_true rfl) (x_Ta_put (d := d) hs b (n + 0) a1 (by omega) h1 h2) (Nat.le_refl _) ⟨Nat.le_refl _, Nat.le_refl _⟩ (fun v h' hq => ?_)
    obtain ⟨rfl, p1⟩ := hq
    have hs1 := hs.fc p1.2.2
    refine kx_aload_n (pc := 21) (kx_dd d_Ta_append 11 rfl) rfl rfl ?_
    refine kx_iload_n (pc := 22) (kx_dd d_Ta_append 12 rfl) rfl rfl ?_
    refine kx_invV (pc := 23) (a := 1) (as := [_]) (kx_dd d_Ta_append 13 rfl) ⟨lk_Ta_19, wi_Ta_put, we_Ta_put⟩ w_Ta_put (hs1.k 1 rfl) rfl rfl rfl rfl (Nat.le_of_ble_eq_true rfl) (x_Ta_put (d := d) hs1 (ext4 b n a1) (n + 4) a2 (by omega) p1.1 p1.2.1) (Nat.le_refl _) ⟨Nat.le_refl _, Nat.le_refl _⟩ (fun v h' hq => ?_)
    obtain ⟨rfl, p2⟩ := hq
    have hs2 := hs1.fc p2.2.2
    refine kx_aload_n (pc := 26) (kx_dd d_Ta_append 14 rfl) rfl rfl ?_
    refine kx_iload_n (pc := 27) (kx_dd d_Ta_append 15 rfl) rfl rfl ?_
    refine kx_invV (pc := 28) (a := 1) (as := [_]) (kx_dd d_Ta_append 16 rfl) ⟨lk_Ta_19, wi_Ta_put, we_Ta_put⟩ w_Ta_put (hs2.k 1 rfl) rfl rfl rfl rfl (Nat.le_of_ble_eq_true rfl) (x_Ta_put (d := d) hs2 (ext4 (ext4 b n a1) (n + 4) a2) (n + 8) a3 (by omega) p2.1 p2.2.1) (Nat.le_refl _) ⟨Nat.le_refl _, Nat.le_refl _⟩ (fun v h' hq => ?_)
    obtain ⟨rfl, p3⟩ := hq
    have hs3 := hs2.fc p3.2.2
    refine kx_aload_n (pc := 31) (kx_dd d_Ta_append 17 rfl) rfl rfl ?_
    refine kx_iload (pc := 32) (kx_dd d_Ta_append 18 rfl) rfl ?_
    refine kx_invV (pc := 34) (a := 1) (as := [_]) (kx_dd d_Ta_append 19 rfl) ⟨lk_Ta_19, wi_Ta_put, we_Ta_put⟩ w_Ta_put (hs3.k 1 rfl) rfl rfl rfl rfl (Nat.le_of_ble_eq_true rfl) (x_Ta_put (d := d) hs3 (ext4 (ext4 (ext4 b n a1) (n + 4) a2) (n + 8) a3) (n + 12) a4 (by omega) p3.1 p3.2.1) (Nat.le_refl _) ⟨Nat.le_refl _, Nat.le_refl _⟩ (fun v h' hq => ?_)
    obtain ⟨rfl, p4⟩ := hq
    have hs4 := hs3.fc p4.2.2
    refine kx_aload_n (pc := 37) (kx_dd d_Ta_append 20 rfl) rfl rfl ?_
    refine kx_iload (pc := 38) (kx_dd d_Ta_append 21 rfl) rfl ?_
    refine kx_invV (pc := 40) (a := 1) (as := [_]) (kx_dd d_Ta_append 22 rfl) ⟨lk_Ta_19, wi_Ta_put, we_Ta_put⟩ w_Ta_put (hs4.k 1 rfl) rfl rfl rfl rfl (Nat.le_of_ble_eq_true rfl) (x_Ta_put (d := d) hs4 (ext4 (ext4 (ext4 (ext4 b n a1) (n + 4) a2) (n + 8) a3) (n + 12) a4) (n + 16) a5 (by omega) p4.1 p4.2.1) (Nat.le_refl _) ⟨Nat.le_refl _, Nat.le_refl _⟩ (fun v h' hq => ?_)
    obtain ⟨rfl, p5⟩ := hq
    have hs5 := hs4.fc p5.2.2
    refine kx_aload_n (pc := 43) (kx_dd d_Ta_append 23 rfl) rfl rfl ?_
    refine kx_getI (pc := 44) fl_Ta_15 (hs5.k 1 rfl) rfl (kx_dd d_Ta_append 24 rfl) ?_
    refine kx_iret (pc := 47) rfl (kx_dd d_Ta_append 25 rfl) (Nat.le_refl _) (Nat.le_refl _) ?_
    refine ⟨fun _ => ⟨?_, p5.1, p5.2.1, (((p1.2.2.tr p2.2.2).tr p3.2.2).tr p4.2.2).tr p5.2.2⟩, fun z => absurd hn z⟩
    rw [p5.1]
  · refine kx_bipush (pc := 13) (v := -3) (kx_dd d_Ta_append 6 rfl) rfl ?_
    refine kx_iret (pc := 15) rfl (kx_dd d_Ta_append 7 rfl) (Nat.le_refl _) (Nat.le_refl _) ?_
    refine ⟨fun z => absurd z (fun z => c10 ?_), fun _ => ⟨rfl, rfl⟩⟩
    rw [h1, show (20 : Int32) = nI 20 from rfl, nI_add]
    exact nI_le (b := 600) z (by decide)
theorem y_feed {l : Launch} {g : kx_G} {d : Nat} {h : kx_Mem} (hs : SM h) (b : Nat → Int32) (n : Nat) (hn0 : n ≤ 600) (h1 : h.1 84 5 = nI n) (h2 : ∀ j, j < n → h.1 88 j = b j) (a1 a2 a3 a4 a5 : Int32) : kx_Sp l g m_Mo_feed [.ref 84, .int a1, .int a2, .int a3, .int a4, .int a5] h (d + 1) 0 0 (fun v h' => (n + 20 ≤ 600 → v = some (.int (nI (n + 20))) ∧ h'.1 84 5 = nI (n + 20) ∧ (∀ j, j < n + 20 → h'.1 88 j = fed b n a1 a2 a3 a4 a5 j) ∧ kx_Fc (fun a j => a = 88 ∨ (a = 84 ∧ j = 5)) h h') ∧ (¬ n + 20 ≤ 600 → v = some (.int (-3)) ∧ h' = h)) := by
  refine kx_enter_e (lv := [_, _, _, _, _, _]) (by decide +kernel) (Nat.le_of_ble_eq_true rfl) rfl ?_
  refine kx_aload_n (pc := 0) (kx_dd d_Mo_feed 0 rfl) rfl rfl ?_
  refine kx_getI (pc := 1) fl_Mo_37 (hs.k 0 rfl) rfl (kx_dd d_Mo_feed 1 rfl) ?_
  refine kx_bipush (pc := 4) (v := 20) (kx_dd d_Mo_feed 2 rfl) rfl ?_
  refine kx_iadd (pc := 6) (kx_dd d_Mo_feed 3 rfl) ?_
  refine kx_sipush (pc := 7) (v := 600) (kx_dd d_Mo_feed 4 rfl) rfl ?_
  refine kx_icmp_le (pc := 10) (tgt := 16) (kx_dd d_Mo_feed 5 rfl) rfl (fun c10 => ?_) (fun c10 => ?_)
  · have hn : n + 20 ≤ 600 := by
      rw [h1, show (20 : Int32) = nI 20 from rfl, nI_add] at c10
      exact (nI_leI (b := 600) (by omega) (by decide)).mp c10
    refine kx_aload_n (pc := 16) (kx_dd d_Mo_feed 8 rfl) rfl rfl ?_
    refine kx_iload_n (pc := 17) (kx_dd d_Mo_feed 9 rfl) rfl rfl ?_
    refine kx_invV (pc := 18) (a := 84) (as := [_]) (kx_dd d_Mo_feed 10 rfl) ⟨lk_Mo_421, wi_Mo_lay, we_Mo_lay⟩ w_Mo_lay (hs.k 0 rfl) rfl rfl rfl rfl (Nat.le_of_ble_eq_true rfl) (y_lay (d := d) hs b (n + 0) a1 (by omega) h1 h2) (Nat.le_refl _) ⟨Nat.le_refl _, Nat.le_refl _⟩ (fun v h' hq => ?_)
    obtain ⟨rfl, p1⟩ := hq
    have hs1 := hs.fc p1.2.2
    refine kx_aload_n (pc := 21) (kx_dd d_Mo_feed 11 rfl) rfl rfl ?_
    refine kx_iload_n (pc := 22) (kx_dd d_Mo_feed 12 rfl) rfl rfl ?_
    refine kx_invV (pc := 23) (a := 84) (as := [_]) (kx_dd d_Mo_feed 13 rfl) ⟨lk_Mo_421, wi_Mo_lay, we_Mo_lay⟩ w_Mo_lay (hs1.k 0 rfl) rfl rfl rfl rfl (Nat.le_of_ble_eq_true rfl) (y_lay (d := d) hs1 (ext4 b n a1) (n + 4) a2 (by omega) p1.1 p1.2.1) (Nat.le_refl _) ⟨Nat.le_refl _, Nat.le_refl _⟩ (fun v h' hq => ?_)
    obtain ⟨rfl, p2⟩ := hq
    have hs2 := hs1.fc p2.2.2
    refine kx_aload_n (pc := 26) (kx_dd d_Mo_feed 14 rfl) rfl rfl ?_
    refine kx_iload_n (pc := 27) (kx_dd d_Mo_feed 15 rfl) rfl rfl ?_
    refine kx_invV (pc := 28) (a := 84) (as := [_]) (kx_dd d_Mo_feed 16 rfl) ⟨lk_Mo_421, wi_Mo_lay, we_Mo_lay⟩ w_Mo_lay (hs2.k 0 rfl) rfl rfl rfl rfl (Nat.le_of_ble_eq_true rfl) (y_lay (d := d) hs2 (ext4 (ext4 b n a1) (n + 4) a2) (n + 8) a3 (by omega) p2.1 p2.2.1) (Nat.le_refl _) ⟨Nat.le_refl _, Nat.le_refl _⟩ (fun v h' hq => ?_)
    obtain ⟨rfl, p3⟩ := hq
    have hs3 := hs2.fc p3.2.2
    refine kx_aload_n (pc := 31) (kx_dd d_Mo_feed 17 rfl) rfl rfl ?_
    refine kx_iload (pc := 32) (kx_dd d_Mo_feed 18 rfl) rfl ?_
    refine kx_invV (pc := 34) (a := 84) (as := [_]) (kx_dd d_Mo_feed 19 rfl) ⟨lk_Mo_421, wi_Mo_lay, we_Mo_lay⟩ w_Mo_lay (hs3.k 0 rfl) rfl rfl rfl rfl (Nat.le_of_ble_eq_true rfl) (y_lay (d := d) hs3 (ext4 (ext4 (ext4 b n a1) (n + 4) a2) (n + 8) a3) (n + 12) a4 (by omega) p3.1 p3.2.1) (Nat.le_refl _) ⟨Nat.le_refl _, Nat.le_refl _⟩ (fun v h' hq => ?_)
    obtain ⟨rfl, p4⟩ := hq
    have hs4 := hs3.fc p4.2.2
    refine kx_aload_n (pc := 37) (kx_dd d_Mo_feed 20 rfl) rfl rfl ?_
    refine kx_iload (pc := 38) (kx_dd d_Mo_feed 21 rfl) rfl ?_
    refine kx_invV (pc := 40) (a := 84) (as := [_]) (kx_dd d_Mo_feed 22 rfl) ⟨lk_Mo_421, wi_Mo_lay, we_Mo_lay⟩ w_Mo_lay (hs4.k 0 rfl) rfl rfl rfl rfl (Nat.le_of_ble_eq_true rfl) (y_lay (d := d) hs4 (ext4 (ext4 (ext4 (ext4 b n a1) (n + 4) a2) (n + 8) a3) (n + 12) a4) (n + 16) a5 (by omega) p4.1 p4.2.1) (Nat.le_refl _) ⟨Nat.le_refl _, Nat.le_refl _⟩ (fun v h' hq => ?_)
    obtain ⟨rfl, p5⟩ := hq
    have hs5 := hs4.fc p5.2.2
    refine kx_aload_n (pc := 43) (kx_dd d_Mo_feed 23 rfl) rfl rfl ?_
    refine kx_getI (pc := 44) fl_Mo_37 (hs5.k 0 rfl) rfl (kx_dd d_Mo_feed 24 rfl) ?_
    refine kx_iret (pc := 47) rfl (kx_dd d_Mo_feed 25 rfl) (Nat.le_refl _) (Nat.le_refl _) ?_
    refine ⟨fun _ => ⟨?_, p5.1, p5.2.1, (((p1.2.2.tr p2.2.2).tr p3.2.2).tr p4.2.2).tr p5.2.2⟩, fun z => absurd hn z⟩
    rw [p5.1]
  · refine kx_bipush (pc := 13) (v := -3) (kx_dd d_Mo_feed 6 rfl) rfl ?_
    refine kx_iret (pc := 15) rfl (kx_dd d_Mo_feed 7 rfl) (Nat.le_refl _) (Nat.le_refl _) ?_
    refine ⟨fun z => absurd z (fun z => c10 ?_), fun _ => ⟨rfl, rfl⟩⟩
    rw [h1, show (20 : Int32) = nI 20 from rfl, nI_add]
    exact nI_le (b := 600) z (by decide)
theorem x_Ta_cut {l : Launch} {g : kx_G} {d : Nat} {h : kx_Mem} (hs : SC h) (n : Nat) (hn : n ≤ 600) (h1 : h.1 1 1 = nI n) (q : Int32) : kx_Sp l g m_Ta_cut [.ref 1, .int q] h (d) 0 0 (fun v h' => ((0 ≤ q ∧ q ≤ nI n) → v = some (.int q) ∧ h' = kx_setI h 1 1 q) ∧ (¬ (0 ≤ q ∧ q ≤ nI n) → v = some (.int (-1)) ∧ h' = h)) := by
  refine kx_enter_e (lv := [_, _]) (by decide +kernel) (Nat.le_of_ble_eq_true rfl) rfl ?_
  refine kx_iload_n (pc := 0) (kx_dd d_Ta_cut 0 rfl) rfl rfl ?_
  refine kx_if_lt (pc := 1) (tgt := 12) (kx_dd d_Ta_cut 1 rfl) rfl (fun c1 => ?_) (fun c1 => ?_)
  · refine kx_iconst (pc := 12) (v := -1) (kx_dd d_Ta_cut 6 rfl) rfl ?_
    refine kx_iret (pc := 13) rfl (kx_dd d_Ta_cut 7 rfl) (Nat.le_refl _) (Nat.le_refl _) ?_
    skip
    refine ⟨fun z => ?_, fun z => ?_⟩
    · exact absurd z.1 (Int32.not_le.mpr c1)
    · exact ⟨rfl, rfl⟩
  · refine kx_iload_n (pc := 4) (kx_dd d_Ta_cut 2 rfl) rfl rfl ?_
    refine kx_aload_n (pc := 5) (kx_dd d_Ta_cut 3 rfl) rfl rfl ?_
    refine kx_getI (pc := 6) fl_Ta_15 (hs.k 1 rfl) rfl (kx_dd d_Ta_cut 4 rfl) ?_
    refine kx_icmp_le (pc := 9) (tgt := 14) (kx_dd d_Ta_cut 5 rfl) rfl (fun c9 => ?_) (fun c9 => ?_)
    · refine kx_aload_n (pc := 14) (kx_dd d_Ta_cut 8 rfl) rfl rfl ?_
      refine kx_iload_n (pc := 15) (kx_dd d_Ta_cut 9 rfl) rfl rfl ?_
      refine kx_putI (pc := 16) fl_Ta_15 (hs.k 1 rfl) (by decide) rfl rfl (kx_dd d_Ta_cut 10 rfl) ?_
      refine kx_iload_n (pc := 19) (kx_dd d_Ta_cut 11 rfl) rfl rfl ?_
      refine kx_iret (pc := 20) rfl (kx_dd d_Ta_cut 12 rfl) (Nat.le_refl _) (Nat.le_refl _) ?_
      rw [h1] at c9
      refine ⟨fun z => ?_, fun z => ?_⟩
      · exact ⟨rfl, rfl⟩
      · exact absurd ⟨Int32.not_lt.mp c1, c9⟩ z
    · refine kx_iconst (pc := 12) (v := -1) (kx_dd d_Ta_cut 6 rfl) rfl ?_
      refine kx_iret (pc := 13) rfl (kx_dd d_Ta_cut 7 rfl) (Nat.le_refl _) (Nat.le_refl _) ?_
      rw [h1] at c9
      refine ⟨fun z => ?_, fun z => ?_⟩
      · exact absurd z.2 c9
      · exact ⟨rfl, rfl⟩
theorem y_end {l : Launch} {g : kx_G} {d : Nat} {h : kx_Mem} (hm : SM h) (n : Nat) (hn : n ≤ 600) (h1 : h.1 84 5 = nI n) (q : Int32) : kx_Sp l g m_Mo_end [.ref 84, .int q] h (d + 1) 0 0 (fun v h' => ((0 ≤ q ∧ q ≤ nI n) → v = some (.int q) ∧ h' = kx_setI h 84 5 q) ∧ (¬ (0 ≤ q ∧ q ≤ nI n) → v = some (.int (-1)) ∧ h' = h)) := by
  refine kx_enter_e (lv := [_, _]) (by decide +kernel) (Nat.le_of_ble_eq_true rfl) rfl ?_
  refine kx_iload_n (pc := 0) (kx_dd d_Mo_end 0 rfl) rfl rfl ?_
  refine kx_i2l (pc := 1) (kx_dd d_Mo_end 1 rfl) ?_
  refine kx_lconst (pc := 2) (v := 0) (kx_dd d_Mo_end 2 rfl) rfl ?_
  refine kx_aload_n (pc := 3) (kx_dd d_Mo_end 3 rfl) rfl rfl ?_
  refine kx_getI (pc := 4) fl_Mo_37 (hm.k 0 rfl) rfl (kx_dd d_Mo_end 4 rfl) ?_
  refine kx_i2l (pc := 7) (kx_dd d_Mo_end 5 rfl) ?_
  refine kx_invS (pc := 8) (as := [_, _, _]) (kx_dd d_Mo_end 6 rfl) ⟨lk_Mo_5, wt_Mo_in⟩ w_Mo_in rfl rfl (Nat.le_of_ble_eq_true rfl) (y_in (d := d) _ _ _) (Nat.le_refl _) ⟨Nat.le_refl _, Nat.le_refl _⟩ (fun v h' hq => ?_)
  obtain ⟨rfl, he⟩ := hq
  rw [he]
  clear he
  refine kx_if_ne (pc := 11) (tgt := 16) (kx_dd d_Mo_end 7 rfl) rfl (fun c11 => ?_) (fun c11 => ?_)
  · refine kx_aload_n (pc := 16) (kx_dd d_Mo_end 10 rfl) rfl rfl ?_
    refine kx_iload_n (pc := 17) (kx_dd d_Mo_end 11 rfl) rfl rfl ?_
    refine kx_putI (pc := 18) fl_Mo_37 (hm.k 0 rfl) (by decide) rfl rfl (kx_dd d_Mo_end 12 rfl) ?_
    refine kx_iload_n (pc := 21) (kx_dd d_Mo_end 13 rfl) rfl rfl ?_
    refine kx_iret (pc := 22) rfl (kx_dd d_Mo_end 14 rfl) (Nat.le_refl _) (Nat.le_refl _) ?_
    rw [bP_0] at c11
    rw [h1, w_le0, w_le] at c11
    refine ⟨fun z => ?_, fun z => ?_⟩
    · exact ⟨rfl, rfl⟩
    · exact absurd (Classical.not_not.mp c11) z
  · refine kx_iconst (pc := 14) (v := -1) (kx_dd d_Mo_end 8 rfl) rfl ?_
    refine kx_iret (pc := 15) rfl (kx_dd d_Mo_end 9 rfl) (Nat.le_refl _) (Nat.le_refl _) ?_
    rw [bP_0] at c11
    rw [h1, w_le0, w_le] at c11
    refine ⟨fun z => ?_, fun z => ?_⟩
    · exact absurd z c11
    · exact ⟨rfl, rfl⟩
theorem x_Ta_clear {l : Launch} {g : kx_G} {d : Nat} {h : kx_Mem} (hs : SC h) : kx_Sp l g m_Ta_clear [.ref 1] h (d) 0 0 (fun v h' => v = none ∧ h' = kx_setI h 1 1 0) := by
  refine kx_enter_e (lv := [_]) (by decide +kernel) (Nat.le_of_ble_eq_true rfl) rfl ?_
  refine kx_aload_n (pc := 0) (kx_dd d_Ta_clear 0 rfl) rfl rfl ?_
  refine kx_iconst (pc := 1) (v := 0) (kx_dd d_Ta_clear 1 rfl) rfl ?_
  refine kx_putI (pc := 2) fl_Ta_15 (hs.k 1 rfl) (by decide) rfl rfl (kx_dd d_Ta_clear 2 rfl) ?_
  refine kx_vret (pc := 5) rfl (kx_dd d_Ta_clear 3 rfl) (Nat.le_refl _) (Nat.le_refl _) ?_
  exact ⟨rfl, rfl⟩
theorem x_Ta_rewind {l : Launch} {g : kx_G} {d : Nat} {h : kx_Mem} (hs : SC h) : kx_Sp l g m_Ta_rewind [.ref 1] h (d) 0 0 (fun v h' => v = none ∧ h' = kx_setI h 1 2 0) := by
  refine kx_enter_e (lv := [_]) (by decide +kernel) (Nat.le_of_ble_eq_true rfl) rfl ?_
  refine kx_aload_n (pc := 0) (kx_dd d_Ta_rewind 0 rfl) rfl rfl ?_
  refine kx_iconst (pc := 1) (v := 0) (kx_dd d_Ta_rewind 1 rfl) rfl ?_
  refine kx_putI (pc := 2) fl_Ta_23 (hs.k 1 rfl) (by decide) rfl rfl (kx_dd d_Ta_rewind 2 rfl) ?_
  refine kx_vret (pc := 5) rfl (kx_dd d_Ta_rewind 3 rfl) (Nat.le_refl _) (Nat.le_refl _) ?_
  exact ⟨rfl, rfl⟩
theorem y_open {l : Launch} {g : kx_G} {d : Nat} {h : kx_Mem} (hm : SM h) : kx_Sp l g m_Mo_open [.ref 84] h (d) 0 0 (fun v h' => v = none ∧ h' = kx_setI (kx_setI (kx_setI h 84 6 (h.1 84 5)) 84 5 0) 84 8 0) := by
  refine kx_enter_e (lv := [_]) (by decide +kernel) (Nat.le_of_ble_eq_true rfl) rfl ?_
  refine kx_aload_n (pc := 0) (kx_dd d_Mo_open 0 rfl) rfl rfl ?_
  refine kx_aload_n (pc := 1) (kx_dd d_Mo_open 1 rfl) rfl rfl ?_
  refine kx_getI (pc := 2) fl_Mo_37 (hm.k 0 rfl) rfl (kx_dd d_Mo_open 2 rfl) ?_
  refine kx_putI (pc := 5) fl_Mo_40 (hm.k 0 rfl) (by decide) rfl rfl (kx_dd d_Mo_open 3 rfl) ?_
  refine kx_aload_n (pc := 8) (kx_dd d_Mo_open 4 rfl) rfl rfl ?_
  refine kx_iconst (pc := 9) (v := 0) (kx_dd d_Mo_open 5 rfl) rfl ?_
  refine kx_putI (pc := 10) fl_Mo_37 (hm.k 0 rfl) (by decide) rfl rfl (kx_dd d_Mo_open 6 rfl) ?_
  refine kx_aload_n (pc := 13) (kx_dd d_Mo_open 7 rfl) rfl rfl ?_
  refine kx_iconst (pc := 14) (v := 0) (kx_dd d_Mo_open 8 rfl) rfl ?_
  refine kx_putI (pc := 15) fl_Mo_43 (hm.k 0 rfl) (by decide) rfl rfl (kx_dd d_Mo_open 9 rfl) ?_
  refine kx_vret (pc := 18) rfl (kx_dd d_Mo_open 10 rfl) (Nat.le_refl _) (Nat.le_refl _) ?_
  exact ⟨rfl, rfl⟩
