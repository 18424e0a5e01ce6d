/-! the reference: scan -/
theorem by8 {x : Int32} (h : x.toInt8.toInt32 = x) : ((97 ≤ (x &&& 255) ∧ (x &&& 255) ≤ 122) ↔ isLe x = true) ∧ ((48 ≤ (x &&& 255) ∧ (x &&& 255) ≤ 57) ↔ isDi x = true) ∧ ((x &&& 255) = 59 ↔ x = 59) ∧ ((0 ≤ x) → x &&& 255 = x) := by
  have key : ∀ k, k < 256 → (((97 : Int32) ≤ ((Int8.ofNat k).toInt32 &&& 255) ∧ ((Int8.ofNat k).toInt32 &&& 255) ≤ 122) ↔ isLe (Int8.ofNat k).toInt32 = true) ∧ (((48 : Int32) ≤ ((Int8.ofNat k).toInt32 &&& 255) ∧ ((Int8.ofNat k).toInt32 &&& 255) ≤ 57) ↔ isDi (Int8.ofNat k).toInt32 = true) ∧ (((Int8.ofNat k).toInt32 &&& 255) = 59 ↔ (Int8.ofNat k).toInt32 = 59) ∧ (((0 : Int32) ≤ (Int8.ofNat k).toInt32) → (Int8.ofNat k).toInt32 &&& 255 = (Int8.ofNat k).toInt32) := by decide +kernel
  have e : x = (Int8.ofNat x.toInt8.toBitVec.toNat).toInt32 := by
    rw [show Int8.ofNat x.toInt8.toBitVec.toNat = x.toInt8 from Int8.toBitVec_inj.1 (by show BitVec.ofNat 8 x.toInt8.toBitVec.toNat = _; simp), h]
  have := key x.toInt8.toBitVec.toNat x.toInt8.toBitVec.isLt
  rwa [← e] at this
def TapM (b : Nat → Int32) (n : Nat) (h : kx_Mem) : Prop := h.1 84 6 = nI n ∧ n ≤ 600 ∧ ∀ k, k < n → h.1 88 k = b k
def TokM (b : Nat → Int32) (n i : Nat) (h : kx_Mem) : Prop := h.1 84 8 = nI (tE b n i) ∧ h.1 84 9 = nI (tK b n i) ∧ h.1 84 7 = nI (tP b n i) ∧ (tK b n i = 2 → h.1 84 10 = nI (tV b n i))
def FsM (a j : Nat) : Prop := a = 84 ∧ 7 ≤ j ∧ j ≤ 10
abbrev kx_Fs (h h' : kx_Mem) : Prop := kx_Fc FsM h h'
theorem TapM.fs {b : Nat → Int32} {n : Nat} {h h' : kx_Mem} (ht : TapM b n h) (hf : kx_Fs h h') : TapM b n h' := ⟨(hf.2 84 6 (by simp [FsM])).trans ht.1, ht.2.1, fun k hk => (hf.2 88 k (by simp [FsM])).trans (ht.2.2 k hk)⟩
theorem y_isSmall {l : Launch} {g : kx_G} {d : Nat} {h : kx_Mem} (x : Int32) : kx_Sp l g m_Mo_isSmall [.int x] h (d) 0 0 (fun v h' => v = some (.int (bP (97 ≤ x ∧ x ≤ 122))) ∧ h' = h) := by
  refine kx_enter_e (lv := [_]) (by decide +kernel) (Nat.le_of_ble_eq_true rfl) rfl ?_
  refine kx_iload_n (pc := 0) (kx_dd d_Mo_isSmall 0 rfl) rfl rfl ?_
  refine kx_bipush (pc := 1) (v := 97) (kx_dd d_Mo_isSmall 1 rfl) rfl ?_
  refine kx_icmp_lt (pc := 3) (tgt := 16) (kx_dd d_Mo_isSmall 2 rfl) rfl (fun c3 => ?_) (fun c3 => ?_)
  · refine kx_iconst (pc := 16) (v := 0) (kx_dd d_Mo_isSmall 8 rfl) rfl ?_
    refine kx_zret (pc := 17) rfl rfl (kx_dd d_Mo_isSmall 9 rfl) (Nat.le_refl _) (Nat.le_refl _) ?_
    exact ⟨by grind [bP], rfl⟩
  · refine kx_iload_n (pc := 6) (kx_dd d_Mo_isSmall 3 rfl) rfl rfl ?_
    refine kx_bipush (pc := 7) (v := 122) (kx_dd d_Mo_isSmall 4 rfl) rfl ?_
    refine kx_icmp_gt (pc := 9) (tgt := 16) (kx_dd d_Mo_isSmall 5 rfl) rfl (fun c9 => ?_) (fun c9 => ?_)
    · refine kx_iconst (pc := 16) (v := 0) (kx_dd d_Mo_isSmall 8 rfl) rfl ?_
      refine kx_zret (pc := 17) rfl rfl (kx_dd d_Mo_isSmall 9 rfl) (Nat.le_refl _) (Nat.le_refl _) ?_
      exact ⟨by grind [bP], rfl⟩
    · refine kx_iconst (pc := 12) (v := 1) (kx_dd d_Mo_isSmall 6 rfl) rfl ?_
      refine kx_goto (pc := 13) (tgt := 17) (kx_dd d_Mo_isSmall 7 rfl) rfl ?_
      refine kx_zret (pc := 17) rfl rfl (kx_dd d_Mo_isSmall 9 rfl) (Nat.le_refl _) (Nat.le_refl _) ?_
      exact ⟨by grind [bP], rfl⟩
theorem y_isDigit {l : Launch} {g : kx_G} {d : Nat} {h : kx_Mem} (x : Int32) : kx_Sp l g m_Mo_isDigit [.int x] h (d) 0 0 (fun v h' => v = some (.int (bP (48 ≤ x ∧ x ≤ 57))) ∧ h' = h) := by
  refine kx_enter_e (lv := [_]) (by decide +kernel) (Nat.le_of_ble_eq_true rfl) rfl ?_
  refine kx_iload_n (pc := 0) (kx_dd d_Mo_isDigit 0 rfl) rfl rfl ?_
  refine kx_bipush (pc := 1) (v := 48) (kx_dd d_Mo_isDigit 1 rfl) rfl ?_
  refine kx_icmp_lt (pc := 3) (tgt := 16) (kx_dd d_Mo_isDigit 2 rfl) rfl (fun c3 => ?_) (fun c3 => ?_)
  · refine kx_iconst (pc := 16) (v := 0) (kx_dd d_Mo_isDigit 8 rfl) rfl ?_
    refine kx_zret (pc := 17) rfl rfl (kx_dd d_Mo_isDigit 9 rfl) (Nat.le_refl _) (Nat.le_refl _) ?_
    exact ⟨by grind [bP], rfl⟩
  · refine kx_iload_n (pc := 6) (kx_dd d_Mo_isDigit 3 rfl) rfl rfl ?_
    refine kx_bipush (pc := 7) (v := 57) (kx_dd d_Mo_isDigit 4 rfl) rfl ?_
    refine kx_icmp_gt (pc := 9) (tgt := 16) (kx_dd d_Mo_isDigit 5 rfl) rfl (fun c9 => ?_) (fun c9 => ?_)
    · refine kx_iconst (pc := 16) (v := 0) (kx_dd d_Mo_isDigit 8 rfl) rfl ?_
      refine kx_zret (pc := 17) rfl rfl (kx_dd d_Mo_isDigit 9 rfl) (Nat.le_refl _) (Nat.le_refl _) ?_
      exact ⟨by grind [bP], rfl⟩
    · refine kx_iconst (pc := 12) (v := 1) (kx_dd d_Mo_isDigit 6 rfl) rfl ?_
      refine kx_goto (pc := 13) (tgt := 17) (kx_dd d_Mo_isDigit 7 rfl) rfl ?_
      refine kx_zret (pc := 17) rfl rfl (kx_dd d_Mo_isDigit 9 rfl) (Nat.le_refl _) (Nat.le_refl _) ?_
      exact ⟨by grind [bP], rfl⟩
theorem y_byteAt {l : Launch} {g : kx_G} {d : Nat} {h : kx_Mem} (hm : SM h) (b : Nat → Int32) (n : Nat) (ht : TapM b n h) (k : Nat) (hk : k < 2 ^ 31) : kx_Sp l g m_Mo_byteAt [.ref 84, .int (nI k)] h (d) 0 0 (fun v h' => v = some (.int (if k < n then b k &&& 255 else 0)) ∧ h' = h) := by
  have hn6 := ht.2.1
  refine kx_enter_e (lv := [_, _]) (by decide +kernel) (Nat.le_of_ble_eq_true rfl) rfl ?_
  refine kx_iload_n (pc := 0) (kx_dd d_Mo_byteAt 0 rfl) rfl rfl ?_
  refine kx_aload_n (pc := 1) (kx_dd d_Mo_byteAt 1 rfl) rfl rfl ?_
  refine kx_getI (pc := 2) fl_Mo_40 (hm.k 0 rfl) rfl (kx_dd d_Mo_byteAt 2 rfl) ?_
  refine kx_icmp_ge (pc := 5) (tgt := 21) (kx_dd d_Mo_byteAt 3 rfl) rfl (fun c5 => ?_) (fun c5 => ?_)
  · refine kx_iconst (pc := 21) (v := 0) (kx_dd d_Mo_byteAt 11 rfl) rfl ?_
    refine kx_iret (pc := 22) rfl (kx_dd d_Mo_byteAt 12 rfl) (Nat.le_refl _) (Nat.le_refl _) ?_
    rw [ht.1, nI_leI (by omega) hk] at c5
    rw [if_neg (show ¬ k < n by omega)]
    exact ⟨rfl, rfl⟩
  · rw [ht.1, nI_leI (by omega) hk] at c5
    have hk2 : k < n := by omega
    refine kx_aload_n (pc := 8) (kx_dd d_Mo_byteAt 4 rfl) rfl rfl ?_
    refine kx_getR (pc := 9) (b := 88) fl_Mo_21 (hm.k 0 rfl) rfl (hm.r 3 rfl) (kx_dd d_Mo_byteAt 5 rfl) ?_
    refine kx_iload_n (pc := 12) (kx_dd d_Mo_byteAt 6 rfl) rfl rfl ?_
    refine kx_baldn (pc := 13) k (hm.t 4 rfl) rfl (by omega) (by decide) (kx_dd d_Mo_byteAt 7 rfl) ?_
    refine kx_sipush (pc := 14) (v := 255) (kx_dd d_Mo_byteAt 8 rfl) rfl ?_
    refine kx_iand (pc := 17) (kx_dd d_Mo_byteAt 9 rfl) ?_
    refine kx_goto (pc := 18) (tgt := 22) (kx_dd d_Mo_byteAt 10 rfl) rfl ?_
    refine kx_iret (pc := 22) rfl (kx_dd d_Mo_byteAt 12 rfl) (Nat.le_refl _) (Nat.le_refl _) ?_
    rw [if_pos hk2, ht.2.2 k hk2]
    exact ⟨rfl, rfl⟩
theorem y_scan_l {l : Launch} {g : kx_G} {d : Nat} {h0 : kx_Mem} (hm0 : SM h0) (b : Nat → Int32) (n i : Nat) (ht0 : TapM b n h0) (hby : BY b) (hin : i ≤ n) (hP0 : tP b n i < n) (hL0 : isLe (b (tP b n i)) = true) : ∀ f k, k + f = n → ∀ h (w1 : Int32), kx_Fs h0 h → tP b n i ≤ k → h.1 84 8 = nI k → h.1 84 7 = nI (tP b n i) → tE b n i = run isLe b n k → kx_X (l, g, m_Mo_scan, d + 1, 0, 0, (fun v h' => v = none ∧ TokM b n i h' ∧ kx_Fs h0 h')) 0 0 95 [some (.ref 84), some (.int w1)] [] h := by
  intro f
  have hn6 := ht0.2.1
  have hpp := tP_le (b := b) hin
  induction f with
  | zero =>
    intro k hk h w1 hf hpk h8 h7 hr
    have hm := hm0.fc hf
    have ht := ht0.fs hf
    refine kx_aload_n (pc := 95) (kx_dd d_Mo_scan 47 rfl) rfl rfl ?_
    refine kx_aload_n (pc := 96) (kx_dd d_Mo_scan 48 rfl) rfl rfl ?_
    refine kx_getI (pc := 97) fl_Mo_43 (hm.k 0 rfl) rfl (kx_dd d_Mo_scan 49 rfl) ?_
    rw [h8]
    refine kx_invV (pc := 100) (a := 84) (as := [_]) (kx_dd d_Mo_scan 50 rfl) ⟨lk_Mo_46, wi_Mo_byteAt, we_Mo_byteAt⟩ w_Mo_byteAt (hm.k 0 rfl) rfl rfl rfl rfl (Nat.le_of_ble_eq_true rfl) (y_byteAt (d := d) hm b n ht k (by omega)) (Nat.le_refl _) ⟨Nat.le_refl _, Nat.le_refl _⟩ (fun v h' hq => ?_)
    obtain ⟨rfl, he⟩ := hq
    rw [he]
    clear he
    refine kx_invS (pc := 103) (as := [_]) (kx_dd d_Mo_scan 51 rfl) ⟨lk_Mo_53, wt_Mo_isSmall⟩ w_Mo_isSmall rfl rfl (Nat.le_of_ble_eq_true rfl) (y_isSmall (d := d) _) (Nat.le_refl _) ⟨Nat.le_refl _, Nat.le_refl _⟩ (fun v h' hq => ?_)
    obtain ⟨rfl, he⟩ := hq
    rw [he]
    clear he
    refine kx_if_eq (pc := 106) (tgt := 122) (kx_dd d_Mo_scan 52 rfl) rfl (fun c106 => ?_) (fun c106 => ?_)
    · refine kx_aload_n (pc := 122) (kx_dd d_Mo_scan 60 rfl) rfl rfl ?_
      refine kx_aload_n (pc := 123) (kx_dd d_Mo_scan 61 rfl) rfl rfl ?_
      refine kx_getI (pc := 124) fl_Mo_43 (hm.k 0 rfl) rfl (kx_dd d_Mo_scan 62 rfl) ?_
      refine kx_aload_n (pc := 127) (kx_dd d_Mo_scan 63 rfl) rfl rfl ?_
      refine kx_getI (pc := 128) fl_Mo_27 (hm.k 0 rfl) rfl (kx_dd d_Mo_scan 64 rfl) ?_
      refine kx_isub (pc := 131) (kx_dd d_Mo_scan 65 rfl) ?_
      refine kx_bipush (pc := 132) (v := 12) (kx_dd d_Mo_scan 66 rfl) rfl ?_
      refine kx_icmp_le (pc := 134) (tgt := 141) (kx_dd d_Mo_scan 67 rfl) rfl (fun c134 => ?_) (fun c134 => ?_)
      · refine kx_iconst (pc := 141) (v := 1) (kx_dd d_Mo_scan 70 rfl) rfl ?_
        refine kx_putI (pc := 142) fl_Mo_50 (hm.k 0 rfl) (by decide) rfl rfl (kx_dd d_Mo_scan 71 rfl) ?_
        refine kx_goto (pc := 145) (tgt := 273) (kx_dd d_Mo_scan 72 rfl) rfl ?_
        refine kx_vret (pc := 273) rfl (kx_dd d_Mo_scan 139 rfl) (Nat.le_refl _) (Nat.le_refl _) ?_
        rw [h8, h7, pk_sub hpk] at c134
        have hE : tE b n i = k := hr.trans (run_end (by omega))
        have eK : tK b n i = if 12 < tE b n i - tP b n i then 4 else 1 := by unfold tK; rw [if_neg (show ¬ n ≤ tP b n i by omega), if_pos hL0]
        have z : (k - tP b n i ≤ 12) := (nI_leI (b := 12) (by omega) (by decide)).mp c134
        refine ⟨rfl, ⟨?_, ?_, h7, ?_⟩, hf.tr (kx_Fc.set ⟨rfl, by decide, by decide⟩)⟩
        · rw [hE]; exact h8
        · rw [eK, hE, if_neg (by omega)]; rfl
        · intro z2; rw [eK] at z2; split at z2 <;> omega
      · refine kx_iconst (pc := 137) (v := 4) (kx_dd d_Mo_scan 68 rfl) rfl ?_
        refine kx_goto (pc := 138) (tgt := 142) (kx_dd d_Mo_scan 69 rfl) rfl ?_
        refine kx_putI (pc := 142) fl_Mo_50 (hm.k 0 rfl) (by decide) rfl rfl (kx_dd d_Mo_scan 71 rfl) ?_
        refine kx_goto (pc := 145) (tgt := 273) (kx_dd d_Mo_scan 72 rfl) rfl ?_
        refine kx_vret (pc := 273) rfl (kx_dd d_Mo_scan 139 rfl) (Nat.le_refl _) (Nat.le_refl _) ?_
        rw [h8, h7, pk_sub hpk] at c134
        have hE : tE b n i = k := hr.trans (run_end (by omega))
        have eK : tK b n i = if 12 < tE b n i - tP b n i then 4 else 1 := by unfold tK; rw [if_neg (show ¬ n ≤ tP b n i by omega), if_pos hL0]
        have z : ¬ (k - tP b n i ≤ 12) := fun z => c134 (nI_le z (by decide))
        refine ⟨rfl, ⟨?_, ?_, h7, ?_⟩, hf.tr (kx_Fc.set ⟨rfl, by decide, by decide⟩)⟩
        · rw [hE]; exact h8
        · rw [eK, hE, if_pos (by omega)]; rfl
        · intro z2; rw [eK] at z2; split at z2 <;> omega
    · exact absurd (by rw [if_neg (show ¬ k < n by omega)]; exact bP_f (by decide)) c106
  | succ f ih =>
    intro k hk h w1 hf hpk h8 h7 hr
    have hm := hm0.fc hf
    have ht := ht0.fs hf
    have h8b := by8 (hby k)
    refine kx_aload_n (pc := 95) (kx_dd d_Mo_scan 47 rfl) rfl rfl ?_
    refine kx_aload_n (pc := 96) (kx_dd d_Mo_scan 48 rfl) rfl rfl ?_
    refine kx_getI (pc := 97) fl_Mo_43 (hm.k 0 rfl) rfl (kx_dd d_Mo_scan 49 rfl) ?_
    rw [h8]
    refine kx_invV (pc := 100) (a := 84) (as := [_]) (kx_dd d_Mo_scan 50 rfl) ⟨lk_Mo_46, wi_Mo_byteAt, we_Mo_byteAt⟩ w_Mo_byteAt (hm.k 0 rfl) rfl rfl rfl rfl (Nat.le_of_ble_eq_true rfl) (y_byteAt (d := d) hm b n ht k (by omega)) (Nat.le_refl _) ⟨Nat.le_refl _, Nat.le_refl _⟩ (fun v h' hq => ?_)
    obtain ⟨rfl, he⟩ := hq
    rw [he]
    clear he
    refine kx_invS (pc := 103) (as := [_]) (kx_dd d_Mo_scan 51 rfl) ⟨lk_Mo_53, wt_Mo_isSmall⟩ w_Mo_isSmall rfl rfl (Nat.le_of_ble_eq_true rfl) (y_isSmall (d := d) _) (Nat.le_refl _) ⟨Nat.le_refl _, Nat.le_refl _⟩ (fun v h' hq => ?_)
    obtain ⟨rfl, he⟩ := hq
    rw [he]
    clear he
    refine kx_if_eq (pc := 106) (tgt := 122) (kx_dd d_Mo_scan 52 rfl) rfl (fun c106 => ?_) (fun c106 => ?_)
    · have hNo : ¬ isLe (b k) = true := by rw [bP_0, if_pos (show k < n by omega)] at c106; exact fun z => c106 (h8b.1.mpr z)
      refine kx_aload_n (pc := 122) (kx_dd d_Mo_scan 60 rfl) rfl rfl ?_
      refine kx_aload_n (pc := 123) (kx_dd d_Mo_scan 61 rfl) rfl rfl ?_
      refine kx_getI (pc := 124) fl_Mo_43 (hm.k 0 rfl) rfl (kx_dd d_Mo_scan 62 rfl) ?_
      refine kx_aload_n (pc := 127) (kx_dd d_Mo_scan 63 rfl) rfl rfl ?_
      refine kx_getI (pc := 128) fl_Mo_27 (hm.k 0 rfl) rfl (kx_dd d_Mo_scan 64 rfl) ?_
      refine kx_isub (pc := 131) (kx_dd d_Mo_scan 65 rfl) ?_
      refine kx_bipush (pc := 132) (v := 12) (kx_dd d_Mo_scan 66 rfl) rfl ?_
      refine kx_icmp_le (pc := 134) (tgt := 141) (kx_dd d_Mo_scan 67 rfl) rfl (fun c134 => ?_) (fun c134 => ?_)
      · refine kx_iconst (pc := 141) (v := 1) (kx_dd d_Mo_scan 70 rfl) rfl ?_
        refine kx_putI (pc := 142) fl_Mo_50 (hm.k 0 rfl) (by decide) rfl rfl (kx_dd d_Mo_scan 71 rfl) ?_
        refine kx_goto (pc := 145) (tgt := 273) (kx_dd d_Mo_scan 72 rfl) rfl ?_
        refine kx_vret (pc := 273) rfl (kx_dd d_Mo_scan 139 rfl) (Nat.le_refl _) (Nat.le_refl _) ?_
        rw [h8, h7, pk_sub hpk] at c134
        have hE : tE b n i = k := hr.trans (run_no hNo)
        have eK : tK b n i = if 12 < tE b n i - tP b n i then 4 else 1 := by unfold tK; rw [if_neg (show ¬ n ≤ tP b n i by omega), if_pos hL0]
        have z : (k - tP b n i ≤ 12) := (nI_leI (b := 12) (by omega) (by decide)).mp c134
        refine ⟨rfl, ⟨?_, ?_, h7, ?_⟩, hf.tr (kx_Fc.set ⟨rfl, by decide, by decide⟩)⟩
        · rw [hE]; exact h8
        · rw [eK, hE, if_neg (by omega)]; rfl
        · intro z2; rw [eK] at z2; split at z2 <;> omega
      · refine kx_iconst (pc := 137) (v := 4) (kx_dd d_Mo_scan 68 rfl) rfl ?_
        refine kx_goto (pc := 138) (tgt := 142) (kx_dd d_Mo_scan 69 rfl) rfl ?_
        refine kx_putI (pc := 142) fl_Mo_50 (hm.k 0 rfl) (by decide) rfl rfl (kx_dd d_Mo_scan 71 rfl) ?_
        refine kx_goto (pc := 145) (tgt := 273) (kx_dd d_Mo_scan 72 rfl) rfl ?_
        refine kx_vret (pc := 273) rfl (kx_dd d_Mo_scan 139 rfl) (Nat.le_refl _) (Nat.le_refl _) ?_
        rw [h8, h7, pk_sub hpk] at c134
        have hE : tE b n i = k := hr.trans (run_no hNo)
        have eK : tK b n i = if 12 < tE b n i - tP b n i then 4 else 1 := by unfold tK; rw [if_neg (show ¬ n ≤ tP b n i by omega), if_pos hL0]
        have z : ¬ (k - tP b n i ≤ 12) := fun z => c134 (nI_le z (by decide))
        refine ⟨rfl, ⟨?_, ?_, h7, ?_⟩, hf.tr (kx_Fc.set ⟨rfl, by decide, by decide⟩)⟩
        · rw [hE]; exact h8
        · rw [eK, hE, if_pos (by omega)]; rfl
        · intro z2; rw [eK] at z2; split at z2 <;> omega
    · have hP : isLe (b k) = true := by rw [bP_0, Classical.not_not, if_pos (show k < n by omega)] at c106; exact h8b.1.mp c106
      refine kx_aload_n (pc := 109) (kx_dd d_Mo_scan 53 rfl) rfl rfl ?_
      refine kx_dup (pc := 110) (kx_dd d_Mo_scan 54 rfl) rfl ?_
      refine kx_getI (pc := 111) fl_Mo_43 (hm.k 0 rfl) rfl (kx_dd d_Mo_scan 55 rfl) ?_
      refine kx_iconst (pc := 114) (v := 1) (kx_dd d_Mo_scan 56 rfl) rfl ?_
      refine kx_iadd (pc := 115) (kx_dd d_Mo_scan 57 rfl) ?_
      refine kx_putI (pc := 116) fl_Mo_43 (hm.k 0 rfl) (by decide) rfl rfl (kx_dd d_Mo_scan 58 rfl) ?_
      refine kx_goto (pc := 119) (tgt := 95) (kx_dd d_Mo_scan 59 rfl) rfl ?_
      have hrr := run_yes (n := n) (show k < n by omega) hP
      rw [h8, nI_1]
      exact ih (k + 1) (by omega) _ w1 (hf.tr (kx_Fc.set ⟨rfl, by decide, by decide⟩)) (by omega) (by simp [kx_setI, kx_up]) h7 (hr.trans hrr)
theorem y_scan_d {l : Launch} {g : kx_G} {d : Nat} {h0 : kx_Mem} (hm0 : SM h0) (b : Nat → Int32) (n i : Nat) (ht0 : TapM b n h0) (hby : BY b) (hin : i ≤ n) (hP0 : tP b n i < n) (hL0 : ¬ isLe (b (tP b n i)) = true) (hD0 : isDi (b (tP b n i)) = true) : ∀ f k, k + f = n → ∀ h (w1 : Int32), kx_Fs h0 h → tP b n i ≤ k → h.1 84 8 = nI k → h.1 84 7 = nI (tP b n i) → tE b n i = run isDi b n k → h.1 84 10 = nI (nv b (tP b n i) (if k - tP b n i < 4 then k - tP b n i else 4)) → (∀ j, j < k - tP b n i → isDi (b (tP b n i + j)) = true) → kx_X (l, g, m_Mo_scan, d + 1, 0, 0, (fun v h' => v = none ∧ TokM b n i h' ∧ kx_Fs h0 h')) 0 0 160 [some (.ref 84), some (.int w1)] [] h := by
  intro f
  have hn6 := ht0.2.1
  have hpp := tP_le (b := b) hin
  induction f with
  | zero =>
    intro k hk h w1 hf hpk h8 h7 hr hv hd9
    have hm := hm0.fc hf
    have ht := ht0.fs hf
    refine kx_aload_n (pc := 160) (kx_dd d_Mo_scan 79 rfl) rfl rfl ?_
    refine kx_aload_n (pc := 161) (kx_dd d_Mo_scan 80 rfl) rfl rfl ?_
    refine kx_getI (pc := 162) fl_Mo_43 (hm.k 0 rfl) rfl (kx_dd d_Mo_scan 81 rfl) ?_
    rw [h8]
    refine kx_invV (pc := 165) (a := 84) (as := [_]) (kx_dd d_Mo_scan 82 rfl) ⟨lk_Mo_46, wi_Mo_byteAt, we_Mo_byteAt⟩ w_Mo_byteAt (hm.k 0 rfl) rfl rfl rfl rfl (Nat.le_of_ble_eq_true rfl) (y_byteAt (d := d) hm b n ht k (by omega)) (Nat.le_refl _) ⟨Nat.le_refl _, Nat.le_refl _⟩ (fun v h' hq => ?_)
    obtain ⟨rfl, he⟩ := hq
    rw [he]
    clear he
    refine kx_invS (pc := 168) (as := [_]) (kx_dd d_Mo_scan 83 rfl) ⟨lk_Mo_57, wt_Mo_isDigit⟩ w_Mo_isDigit rfl rfl (Nat.le_of_ble_eq_true rfl) (y_isDigit (d := d) _) (Nat.le_refl _) ⟨Nat.le_refl _, Nat.le_refl _⟩ (fun v h' hq => ?_)
    obtain ⟨rfl, he⟩ := hq
    rw [he]
    clear he
    refine kx_if_eq (pc := 171) (tgt := 223) (kx_dd d_Mo_scan 84 rfl) rfl (fun c171 => ?_) (fun c171 => ?_)
    · refine kx_aload_n (pc := 223) (kx_dd d_Mo_scan 112 rfl) rfl rfl ?_
      refine kx_aload_n (pc := 224) (kx_dd d_Mo_scan 113 rfl) rfl rfl ?_
      refine kx_getI (pc := 225) fl_Mo_43 (hm.k 0 rfl) rfl (kx_dd d_Mo_scan 114 rfl) ?_
      refine kx_aload_n (pc := 228) (kx_dd d_Mo_scan 115 rfl) rfl rfl ?_
      refine kx_getI (pc := 229) fl_Mo_27 (hm.k 0 rfl) rfl (kx_dd d_Mo_scan 116 rfl) ?_
      refine kx_isub (pc := 232) (kx_dd d_Mo_scan 117 rfl) ?_
      refine kx_iconst (pc := 233) (v := 4) (kx_dd d_Mo_scan 118 rfl) rfl ?_
      refine kx_icmp_le (pc := 234) (tgt := 241) (kx_dd d_Mo_scan 119 rfl) rfl (fun c234 => ?_) (fun c234 => ?_)
      · refine kx_iconst (pc := 241) (v := 2) (kx_dd d_Mo_scan 122 rfl) rfl ?_
        refine kx_putI (pc := 242) fl_Mo_50 (hm.k 0 rfl) (by decide) rfl rfl (kx_dd d_Mo_scan 123 rfl) ?_
        refine kx_goto (pc := 245) (tgt := 273) (kx_dd d_Mo_scan 124 rfl) rfl ?_
        refine kx_vret (pc := 273) rfl (kx_dd d_Mo_scan 139 rfl) (Nat.le_refl _) (Nat.le_refl _) ?_
        rw [h8, h7, pk_sub hpk] at c234
        have hE : tE b n i = k := hr.trans (run_end (by omega))
        have eK : tK b n i = if 4 < tE b n i - tP b n i then 4 else 2 := by unfold tK; rw [if_neg (show ¬ n ≤ tP b n i by omega), if_neg hL0, if_pos hD0]
        have z : (k - tP b n i ≤ 4) := (nI_leI (b := 4) (by omega) (by decide)).mp c234
        refine ⟨rfl, ⟨?_, ?_, h7, ?_⟩, hf.tr (kx_Fc.set ⟨rfl, by decide, by decide⟩)⟩
        · rw [hE]; exact h8
        · rw [eK, hE, if_neg (by omega)]; rfl
        · intro _
          show h.1 84 10 = _
          rw [hv]
          unfold tV
          rw [hE]
          split
          · rfl
          · congr 2; omega
      · refine kx_iconst (pc := 237) (v := 4) (kx_dd d_Mo_scan 120 rfl) rfl ?_
        refine kx_goto (pc := 238) (tgt := 242) (kx_dd d_Mo_scan 121 rfl) rfl ?_
        refine kx_putI (pc := 242) fl_Mo_50 (hm.k 0 rfl) (by decide) rfl rfl (kx_dd d_Mo_scan 123 rfl) ?_
        refine kx_goto (pc := 245) (tgt := 273) (kx_dd d_Mo_scan 124 rfl) rfl ?_
        refine kx_vret (pc := 273) rfl (kx_dd d_Mo_scan 139 rfl) (Nat.le_refl _) (Nat.le_refl _) ?_
        rw [h8, h7, pk_sub hpk] at c234
        have hE : tE b n i = k := hr.trans (run_end (by omega))
        have eK : tK b n i = if 4 < tE b n i - tP b n i then 4 else 2 := by unfold tK; rw [if_neg (show ¬ n ≤ tP b n i by omega), if_neg hL0, if_pos hD0]
        have z : ¬ (k - tP b n i ≤ 4) := fun z => c234 (nI_le z (by decide))
        refine ⟨rfl, ⟨?_, ?_, h7, ?_⟩, hf.tr (kx_Fc.set ⟨rfl, by decide, by decide⟩)⟩
        · rw [hE]; exact h8
        · rw [eK, hE, if_pos (by omega)]; rfl
        · intro z2; rw [eK, hE, if_pos (by omega)] at z2; omega
    · exact absurd (by rw [if_neg (show ¬ k < n by omega)]; exact bP_f (by decide)) c171
  | succ f ih =>
    intro k hk h w1 hf hpk h8 h7 hr hv hd9
    have hm := hm0.fc hf
    have ht := ht0.fs hf
    have h8b := by8 (hby k)
    refine kx_aload_n (pc := 160) (kx_dd d_Mo_scan 79 rfl) rfl rfl ?_
    refine kx_aload_n (pc := 161) (kx_dd d_Mo_scan 80 rfl) rfl rfl ?_
    refine kx_getI (pc := 162) fl_Mo_43 (hm.k 0 rfl) rfl (kx_dd d_Mo_scan 81 rfl) ?_
    rw [h8]
    refine kx_invV (pc := 165) (a := 84) (as := [_]) (kx_dd d_Mo_scan 82 rfl) ⟨lk_Mo_46, wi_Mo_byteAt, we_Mo_byteAt⟩ w_Mo_byteAt (hm.k 0 rfl) rfl rfl rfl rfl (Nat.le_of_ble_eq_true rfl) (y_byteAt (d := d) hm b n ht k (by omega)) (Nat.le_refl _) ⟨Nat.le_refl _, Nat.le_refl _⟩ (fun v h' hq => ?_)
    obtain ⟨rfl, he⟩ := hq
    rw [he]
    clear he
    refine kx_invS (pc := 168) (as := [_]) (kx_dd d_Mo_scan 83 rfl) ⟨lk_Mo_57, wt_Mo_isDigit⟩ w_Mo_isDigit rfl rfl (Nat.le_of_ble_eq_true rfl) (y_isDigit (d := d) _) (Nat.le_refl _) ⟨Nat.le_refl _, Nat.le_refl _⟩ (fun v h' hq => ?_)
    obtain ⟨rfl, he⟩ := hq
    rw [he]
    clear he
    refine kx_if_eq (pc := 171) (tgt := 223) (kx_dd d_Mo_scan 84 rfl) rfl (fun c171 => ?_) (fun c171 => ?_)
    · have hNo : ¬ isDi (b k) = true := by rw [bP_0, if_pos (show k < n by omega)] at c171; exact fun z => c171 (h8b.2.1.mpr z)
      refine kx_aload_n (pc := 223) (kx_dd d_Mo_scan 112 rfl) rfl rfl ?_
      refine kx_aload_n (pc := 224) (kx_dd d_Mo_scan 113 rfl) rfl rfl ?_
      refine kx_getI (pc := 225) fl_Mo_43 (hm.k 0 rfl) rfl (kx_dd d_Mo_scan 114 rfl) ?_
      refine kx_aload_n (pc := 228) (kx_dd d_Mo_scan 115 rfl) rfl rfl ?_
      refine kx_getI (pc := 229) fl_Mo_27 (hm.k 0 rfl) rfl (kx_dd d_Mo_scan 116 rfl) ?_
      refine kx_isub (pc := 232) (kx_dd d_Mo_scan 117 rfl) ?_
      refine kx_iconst (pc := 233) (v := 4) (kx_dd d_Mo_scan 118 rfl) rfl ?_
      refine kx_icmp_le (pc := 234) (tgt := 241) (kx_dd d_Mo_scan 119 rfl) rfl (fun c234 => ?_) (fun c234 => ?_)
      · refine kx_iconst (pc := 241) (v := 2) (kx_dd d_Mo_scan 122 rfl) rfl ?_
        refine kx_putI (pc := 242) fl_Mo_50 (hm.k 0 rfl) (by decide) rfl rfl (kx_dd d_Mo_scan 123 rfl) ?_
        refine kx_goto (pc := 245) (tgt := 273) (kx_dd d_Mo_scan 124 rfl) rfl ?_
        refine kx_vret (pc := 273) rfl (kx_dd d_Mo_scan 139 rfl) (Nat.le_refl _) (Nat.le_refl _) ?_
        rw [h8, h7, pk_sub hpk] at c234
        have hE : tE b n i = k := hr.trans (run_no hNo)
        have eK : tK b n i = if 4 < tE b n i - tP b n i then 4 else 2 := by unfold tK; rw [if_neg (show ¬ n ≤ tP b n i by omega), if_neg hL0, if_pos hD0]
        have z : (k - tP b n i ≤ 4) := (nI_leI (b := 4) (by omega) (by decide)).mp c234
        refine ⟨rfl, ⟨?_, ?_, h7, ?_⟩, hf.tr (kx_Fc.set ⟨rfl, by decide, by decide⟩)⟩
        · rw [hE]; exact h8
        · rw [eK, hE, if_neg (by omega)]; rfl
        · intro _
          show h.1 84 10 = _
          rw [hv]
          unfold tV
          rw [hE]
          split
          · rfl
          · congr 2; omega
      · refine kx_iconst (pc := 237) (v := 4) (kx_dd d_Mo_scan 120 rfl) rfl ?_
        refine kx_goto (pc := 238) (tgt := 242) (kx_dd d_Mo_scan 121 rfl) rfl ?_
        refine kx_putI (pc := 242) fl_Mo_50 (hm.k 0 rfl) (by decide) rfl rfl (kx_dd d_Mo_scan 123 rfl) ?_
        refine kx_goto (pc := 245) (tgt := 273) (kx_dd d_Mo_scan 124 rfl) rfl ?_
        refine kx_vret (pc := 273) rfl (kx_dd d_Mo_scan 139 rfl) (Nat.le_refl _) (Nat.le_refl _) ?_
        rw [h8, h7, pk_sub hpk] at c234
        have hE : tE b n i = k := hr.trans (run_no hNo)
        have eK : tK b n i = if 4 < tE b n i - tP b n i then 4 else 2 := by unfold tK; rw [if_neg (show ¬ n ≤ tP b n i by omega), if_neg hL0, if_pos hD0]
        have z : ¬ (k - tP b n i ≤ 4) := fun z => c234 (nI_le z (by decide))
        refine ⟨rfl, ⟨?_, ?_, h7, ?_⟩, hf.tr (kx_Fc.set ⟨rfl, by decide, by decide⟩)⟩
        · rw [hE]; exact h8
        · rw [eK, hE, if_pos (by omega)]; rfl
        · intro z2; rw [eK, hE, if_pos (by omega)] at z2; omega
    · have hP : isDi (b k) = true := by rw [bP_0, Classical.not_not, if_pos (show k < n by omega)] at c171; exact h8b.2.1.mp c171
      refine kx_aload_n (pc := 174) (kx_dd d_Mo_scan 85 rfl) rfl rfl ?_
      refine kx_getI (pc := 175) fl_Mo_43 (hm.k 0 rfl) rfl (kx_dd d_Mo_scan 86 rfl) ?_
      refine kx_aload_n (pc := 178) (kx_dd d_Mo_scan 87 rfl) rfl rfl ?_
      refine kx_getI (pc := 179) fl_Mo_27 (hm.k 0 rfl) rfl (kx_dd d_Mo_scan 88 rfl) ?_
      refine kx_isub (pc := 182) (kx_dd d_Mo_scan 89 rfl) ?_
      refine kx_iconst (pc := 183) (v := 4) (kx_dd d_Mo_scan 90 rfl) rfl ?_
      refine kx_icmp_ge (pc := 184) (tgt := 210) (kx_dd d_Mo_scan 91 rfl) rfl (fun c184 => ?_) (fun c184 => ?_)
      · refine kx_aload_n (pc := 210) (kx_dd d_Mo_scan 105 rfl) rfl rfl ?_
        refine kx_dup (pc := 211) (kx_dd d_Mo_scan 106 rfl) rfl ?_
        refine kx_getI (pc := 212) fl_Mo_43 (hm.k 0 rfl) rfl (kx_dd d_Mo_scan 107 rfl) ?_
        refine kx_iconst (pc := 215) (v := 1) (kx_dd d_Mo_scan 108 rfl) rfl ?_
        refine kx_iadd (pc := 216) (kx_dd d_Mo_scan 109 rfl) ?_
        refine kx_putI (pc := 217) fl_Mo_43 (hm.k 0 rfl) (by decide) rfl rfl (kx_dd d_Mo_scan 110 rfl) ?_
        refine kx_goto (pc := 220) (tgt := 160) (kx_dd d_Mo_scan 111 rfl) rfl ?_
        have hrr := run_yes (n := n) (show k < n by omega) hP
        rw [h8, h7, pk_sub hpk] at c184
        have z : 4 ≤ k - tP b n i := (nI_leI (a := 4) (by decide) (by omega)).mp c184
        rw [h8, nI_1]
        refine ih (k + 1) (by omega) _ w1 (hf.tr (kx_Fc.set ⟨rfl, by decide, by decide⟩)) (by omega) (by simp [kx_setI, kx_up]) h7 (hr.trans hrr) ?_ ?_
        · show h.1 84 10 = _
          rw [hv, if_neg (by omega), if_neg (by omega)]
        · intro j hj
          rcases Nat.lt_or_ge j (k - tP b n i) with q | q
          · exact hd9 j q
          · rw [show tP b n i + j = k by omega]; exact hP
      · refine kx_aload_n (pc := 187) (kx_dd d_Mo_scan 92 rfl) rfl rfl ?_
        refine kx_bipush (pc := 188) (v := 10) (kx_dd d_Mo_scan 93 rfl) rfl ?_
        refine kx_aload_n (pc := 190) (kx_dd d_Mo_scan 94 rfl) rfl rfl ?_
        refine kx_getI (pc := 191) fl_Mo_60 (hm.k 0 rfl) rfl (kx_dd d_Mo_scan 95 rfl) ?_
        refine kx_imul (pc := 194) (kx_dd d_Mo_scan 96 rfl) ?_
        refine kx_aload_n (pc := 195) (kx_dd d_Mo_scan 97 rfl) rfl rfl ?_
        refine kx_aload_n (pc := 196) (kx_dd d_Mo_scan 98 rfl) rfl rfl ?_
        refine kx_getI (pc := 197) fl_Mo_43 (hm.k 0 rfl) rfl (kx_dd d_Mo_scan 99 rfl) ?_
        rw [show h.1 84 8 = nI k from h8]
        refine kx_invV (pc := 200) (a := 84) (as := [_]) (kx_dd d_Mo_scan 100 rfl) ⟨lk_Mo_46, wi_Mo_byteAt, we_Mo_byteAt⟩ w_Mo_byteAt (hm.k 0 rfl) rfl rfl rfl rfl (Nat.le_of_ble_eq_true rfl) (y_byteAt (d := d) hm b n ht k (by omega)) (Nat.le_refl _) ⟨Nat.le_refl _, Nat.le_refl _⟩ (fun v h' hq => ?_)
        obtain ⟨rfl, he⟩ := hq
        rw [he]
        clear he
        refine kx_iadd (pc := 203) (kx_dd d_Mo_scan 101 rfl) ?_
        refine kx_bipush (pc := 204) (v := 48) (kx_dd d_Mo_scan 102 rfl) rfl ?_
        refine kx_isub (pc := 206) (kx_dd d_Mo_scan 103 rfl) ?_
        refine kx_putI (pc := 207) fl_Mo_60 (hm.k 0 rfl) (by decide) rfl rfl (kx_dd d_Mo_scan 104 rfl) ?_
        refine kx_aload_n (pc := 210) (kx_dd d_Mo_scan 105 rfl) rfl rfl ?_
        refine kx_dup (pc := 211) (kx_dd d_Mo_scan 106 rfl) rfl ?_
        refine kx_getI (pc := 212) fl_Mo_43 (hm.k 0 rfl) rfl (kx_dd d_Mo_scan 107 rfl) ?_
        refine kx_iconst (pc := 215) (v := 1) (kx_dd d_Mo_scan 108 rfl) rfl ?_
        refine kx_iadd (pc := 216) (kx_dd d_Mo_scan 109 rfl) ?_
        refine kx_putI (pc := 217) fl_Mo_43 (hm.k 0 rfl) (by decide) rfl rfl (kx_dd d_Mo_scan 110 rfl) ?_
        refine kx_goto (pc := 220) (tgt := 160) (kx_dd d_Mo_scan 111 rfl) rfl ?_
        have hrr := run_yes (n := n) (show k < n by omega) hP
        rw [h8, h7, pk_sub hpk] at c184
        have z : ¬ 4 ≤ k - tP b n i := fun z => c184 (nI_le (a := 4) z (by omega))
        obtain ⟨m, m1, m2, em⟩ := di_nat hP
        rw [hv, if_pos (show k < n by omega), h8b.2.2.2 (by rw [em]; exact nI_pos' (by omega)), em, if_pos (show k - tP b n i < 4 by omega)]
        rw [show (kx_setI h 84 10 _).1 84 8 = nI k from h8, nI_1]
        refine ih (k + 1) (by omega) _ w1 ((hf.tr (kx_Fc.set ⟨rfl, by decide, by decide⟩)).tr (kx_Fc.set ⟨rfl, by decide, by decide⟩)) (by omega) (by simp [kx_setI, kx_up]) h7 (hr.trans hrr) ?_ ?_
        · show (10 : Int32) * nI (nv b (tP b n i) (k - tP b n i)) + nI m - 48 = _
          have e5 : (if k + 1 - tP b n i < 4 then k + 1 - tP b n i else 4) = (k - tP b n i) + 1 := by split <;> omega
          rw [e5]
          show _ = nI (nv b (tP b n i) (k - tP b n i) * 10 + ((b (tP b n i + (k - tP b n i))).toNatClampNeg - 48))
          rw [show tP b n i + (k - tP b n i) = k by omega, em, nI_clamp (by omega), show (10 : Int32) = nI 10 from rfl, pk_mul, nI_add, show (48 : Int32) = nI 48 from rfl, pk_sub (by omega)]
          congr 1
          omega
        · intro j hj
          rcases Nat.lt_or_ge j (k - tP b n i) with q | q
          · exact hd9 j q
          · rw [show tP b n i + j = k by omega]; exact hP
theorem y_scan_at {l : Launch} {g : kx_G} {d : Nat} {h0 : kx_Mem} (hm0 : SM h0) (b : Nat → Int32) (n i : Nat) (ht0 : TapM b n h0) (hby : BY b) (hin : i ≤ n) (h : kx_Mem) (hf : kx_Fs h0 h) (h8 : h.1 84 8 = nI (tP b n i)) : kx_X (l, g, m_Mo_scan, d + 1, 0, 0, (fun v h' => v = none ∧ TokM b n i h' ∧ kx_Fs h0 h')) 0 0 52 [some (.ref 84), none] [] h := by
  have hn6 := ht0.2.1
  have hpp := tP_le (b := b) hin
  have hf1 : kx_Fs h0 (kx_setI h 84 7 (nI (tP b n i))) := hf.tr (kx_Fc.set ⟨rfl, by decide, by decide⟩)
  have hm := hm0.fc hf
  refine kx_aload_n (pc := 52) (kx_dd d_Mo_scan 26 rfl) rfl rfl ?_
  refine kx_aload_n (pc := 53) (kx_dd d_Mo_scan 27 rfl) rfl rfl ?_
  refine kx_getI (pc := 54) fl_Mo_43 (hm.k 0 rfl) rfl (kx_dd d_Mo_scan 28 rfl) ?_
  rw [h8]
  refine kx_putI (pc := 57) fl_Mo_27 (hm.k 0 rfl) (by decide) rfl rfl (kx_dd d_Mo_scan 29 rfl) ?_
  have hm := hm0.fc hf1
  have ht := ht0.fs hf1
  refine kx_aload_n (pc := 60) (kx_dd d_Mo_scan 30 rfl) rfl rfl ?_
  refine kx_aload_n (pc := 61) (kx_dd d_Mo_scan 31 rfl) rfl rfl ?_
  refine kx_getI (pc := 62) fl_Mo_27 (hm.k 0 rfl) rfl (kx_dd d_Mo_scan 32 rfl) ?_
  rw [show (kx_setI h 84 7 (nI (tP b n i))).1 84 7 = nI (tP b n i) from rfl]
  refine kx_invV (pc := 65) (a := 84) (as := [_]) (kx_dd d_Mo_scan 33 rfl) ⟨lk_Mo_46, wi_Mo_byteAt, we_Mo_byteAt⟩ w_Mo_byteAt (hm.k 0 rfl) rfl rfl rfl rfl (Nat.le_of_ble_eq_true rfl) (y_byteAt (d := d) hm b n ht (tP b n i) (by omega)) (Nat.le_refl _) ⟨Nat.le_refl _, Nat.le_refl _⟩ (fun v h' hq => ?_)
  obtain ⟨rfl, he⟩ := hq
  rw [he]
  clear he
  refine kx_istore_ne (pc := 68) (lv' := [_, _]) (kx_dd d_Mo_scan 34 rfl) rfl (Nat.le_of_ble_eq_true rfl) rfl ?_
  refine kx_aload_n (pc := 69) (kx_dd d_Mo_scan 35 rfl) rfl rfl ?_
  refine kx_getI (pc := 70) fl_Mo_27 (hm.k 0 rfl) rfl (kx_dd d_Mo_scan 36 rfl) ?_
  refine kx_aload_n (pc := 73) (kx_dd d_Mo_scan 37 rfl) rfl rfl ?_
  refine kx_getI (pc := 74) fl_Mo_40 (hm.k 0 rfl) rfl (kx_dd d_Mo_scan 38 rfl) ?_
  refine kx_icmp_ne (pc := 77) (tgt := 88) (kx_dd d_Mo_scan 39 rfl) rfl (fun c77 => ?_) (fun c77 => ?_)
  · have hP0 : tP b n i < n := by
      rw [show (kx_setI h 84 7 (nI (tP b n i))).1 84 7 = nI (tP b n i) from rfl, show (kx_setI h 84 7 (nI (tP b n i))).1 84 6 = nI n from ht.1, nI_eq (by omega) (by omega)] at c77
      omega
    have h8b := by8 (hby (tP b n i))
    refine kx_iload_n (pc := 88) (kx_dd d_Mo_scan 44 rfl) rfl rfl ?_
    refine kx_invS (pc := 89) (as := [_]) (kx_dd d_Mo_scan 45 rfl) ⟨lk_Mo_53, wt_Mo_isSmall⟩ w_Mo_isSmall rfl rfl (Nat.le_of_ble_eq_true rfl) (y_isSmall (d := d) _) (Nat.le_refl _) ⟨Nat.le_refl _, Nat.le_refl _⟩ (fun v h' hq => ?_)
    obtain ⟨rfl, he⟩ := hq
    rw [he]
    clear he
    refine kx_if_eq (pc := 92) (tgt := 148) (kx_dd d_Mo_scan 46 rfl) rfl (fun c92 => ?_) (fun c92 => ?_)
    · rw [bP_0, if_pos hP0, h8b.1] at c92
      have hL := c92
      refine kx_iload_n (pc := 148) (kx_dd d_Mo_scan 73 rfl) rfl rfl ?_
      refine kx_invS (pc := 149) (as := [_]) (kx_dd d_Mo_scan 74 rfl) ⟨lk_Mo_57, wt_Mo_isDigit⟩ w_Mo_isDigit rfl rfl (Nat.le_of_ble_eq_true rfl) (y_isDigit (d := d) _) (Nat.le_refl _) ⟨Nat.le_refl _, Nat.le_refl _⟩ (fun v h' hq => ?_)
      obtain ⟨rfl, he⟩ := hq
      rw [he]
      clear he
      refine kx_if_eq (pc := 152) (tgt := 248) (kx_dd d_Mo_scan 75 rfl) rfl (fun c152 => ?_) (fun c152 => ?_)
      · rw [bP_0, if_pos hP0, h8b.2.1] at c152
        have hD := c152
        refine kx_aload_n (pc := 248) (kx_dd d_Mo_scan 125 rfl) rfl rfl ?_
        refine kx_iload_n (pc := 249) (kx_dd d_Mo_scan 126 rfl) rfl rfl ?_
        refine kx_bipush (pc := 250) (v := 59) (kx_dd d_Mo_scan 127 rfl) rfl ?_
        refine kx_icmp_ne (pc := 252) (tgt := 259) (kx_dd d_Mo_scan 128 rfl) rfl (fun c252 => ?_) (fun c252 => ?_)
        · refine kx_iconst (pc := 259) (v := 4) (kx_dd d_Mo_scan 131 rfl) rfl ?_
          refine kx_putI (pc := 260) fl_Mo_50 (hm.k 0 rfl) (by decide) rfl rfl (kx_dd d_Mo_scan 132 rfl) ?_
          refine kx_aload_n (pc := 263) (kx_dd d_Mo_scan 133 rfl) rfl rfl ?_
          refine kx_dup (pc := 264) (kx_dd d_Mo_scan 134 rfl) rfl ?_
          refine kx_getI (pc := 265) fl_Mo_43 (hm.k 0 rfl) rfl (kx_dd d_Mo_scan 135 rfl) ?_
          refine kx_iconst (pc := 268) (v := 1) (kx_dd d_Mo_scan 136 rfl) rfl ?_
          refine kx_iadd (pc := 269) (kx_dd d_Mo_scan 137 rfl) ?_
          refine kx_putI (pc := 270) fl_Mo_43 (hm.k 0 rfl) (by decide) rfl rfl (kx_dd d_Mo_scan 138 rfl) ?_
          refine kx_vret (pc := 273) rfl (kx_dd d_Mo_scan 139 rfl) (Nat.le_refl _) (Nat.le_refl _) ?_
          have eE : tE b n i = tP b n i + 1 := by unfold tE; rw [if_neg (show ¬ n ≤ tP b n i by omega), if_neg hL, if_neg hD]
          rw [if_pos hP0, h8b.2.2.1] at c252
          have eK : tK b n i = 4 := by unfold tK; rw [if_neg (show ¬ n ≤ tP b n i by omega), if_neg hL, if_neg hD, if_neg c252]
          refine ⟨rfl, ⟨?_, ?_, rfl, ?_⟩, (hf1.tr (kx_Fc.set ⟨rfl, by decide, by decide⟩)).tr (kx_Fc.set ⟨rfl, by decide, by decide⟩)⟩
          · rw [eE]
            show h.1 84 8 + 1 = _
            rw [h8, nI_1]
          · rw [eK]; rfl
          · intro z; omega
        · refine kx_iconst (pc := 255) (v := 3) (kx_dd d_Mo_scan 129 rfl) rfl ?_
          refine kx_goto (pc := 256) (tgt := 260) (kx_dd d_Mo_scan 130 rfl) rfl ?_
          refine kx_putI (pc := 260) fl_Mo_50 (hm.k 0 rfl) (by decide) rfl rfl (kx_dd d_Mo_scan 132 rfl) ?_
          refine kx_aload_n (pc := 263) (kx_dd d_Mo_scan 133 rfl) rfl rfl ?_
          refine kx_dup (pc := 264) (kx_dd d_Mo_scan 134 rfl) rfl ?_
          refine kx_getI (pc := 265) fl_Mo_43 (hm.k 0 rfl) rfl (kx_dd d_Mo_scan 135 rfl) ?_
          refine kx_iconst (pc := 268) (v := 1) (kx_dd d_Mo_scan 136 rfl) rfl ?_
          refine kx_iadd (pc := 269) (kx_dd d_Mo_scan 137 rfl) ?_
          refine kx_putI (pc := 270) fl_Mo_43 (hm.k 0 rfl) (by decide) rfl rfl (kx_dd d_Mo_scan 138 rfl) ?_
          refine kx_vret (pc := 273) rfl (kx_dd d_Mo_scan 139 rfl) (Nat.le_refl _) (Nat.le_refl _) ?_
          have eE : tE b n i = tP b n i + 1 := by unfold tE; rw [if_neg (show ¬ n ≤ tP b n i by omega), if_neg hL, if_neg hD]
          rw [if_pos hP0, h8b.2.2.1] at c252
          have eK : tK b n i = 3 := by unfold tK; rw [if_neg (show ¬ n ≤ tP b n i by omega), if_neg hL, if_neg hD, if_pos c252]
          refine ⟨rfl, ⟨?_, ?_, rfl, ?_⟩, (hf1.tr (kx_Fc.set ⟨rfl, by decide, by decide⟩)).tr (kx_Fc.set ⟨rfl, by decide, by decide⟩)⟩
          · rw [eE]
            show h.1 84 8 + 1 = _
            rw [h8, nI_1]
          · rw [eK]; rfl
          · intro z; omega
      · rw [bP_0, Classical.not_not, if_pos hP0, h8b.2.1] at c152
        have hD := c152
        refine kx_aload_n (pc := 155) (kx_dd d_Mo_scan 76 rfl) rfl rfl ?_
        refine kx_iconst (pc := 156) (v := 0) (kx_dd d_Mo_scan 77 rfl) rfl ?_
        refine kx_putI (pc := 157) fl_Mo_60 (hm.k 0 rfl) (by decide) rfl rfl (kx_dd d_Mo_scan 78 rfl) ?_
        exact y_scan_d hm0 b n i ht0 hby hin hP0 hL hD (n - tP b n i) (tP b n i) (by omega) _ _ (hf1.tr (kx_Fc.set ⟨rfl, by decide, by decide⟩)) (Nat.le_refl _) h8 rfl (by unfold tE; rw [if_neg (show ¬ n ≤ tP b n i by omega), if_neg hL, if_pos hD]) (by rw [Nat.sub_self]; rfl) (fun j hj => by omega)
    · rw [bP_0, Classical.not_not, if_pos hP0, h8b.1] at c92
      have hL := c92
      exact y_scan_l hm0 b n i ht0 hby hin hP0 hL (n - tP b n i) (tP b n i) (by omega) _ _ hf1 (Nat.le_refl _) h8 rfl (by unfold tE; rw [if_neg (show ¬ n ≤ tP b n i by omega), if_pos hL])
  · refine kx_aload_n (pc := 80) (kx_dd d_Mo_scan 40 rfl) rfl rfl ?_
    refine kx_iconst (pc := 81) (v := 0) (kx_dd d_Mo_scan 41 rfl) rfl ?_
    refine kx_putI (pc := 82) fl_Mo_50 (hm.k 0 rfl) (by decide) rfl rfl (kx_dd d_Mo_scan 42 rfl) ?_
    refine kx_goto (pc := 85) (tgt := 273) (kx_dd d_Mo_scan 43 rfl) rfl ?_
    refine kx_vret (pc := 273) rfl (kx_dd d_Mo_scan 139 rfl) (Nat.le_refl _) (Nat.le_refl _) ?_
    rw [show (kx_setI h 84 7 (nI (tP b n i))).1 84 7 = nI (tP b n i) from rfl, show (kx_setI h 84 7 (nI (tP b n i))).1 84 6 = nI n from ht.1, nI_eq (by omega) (by omega)] at c77
    have e0 : n ≤ tP b n i := by omega
    have eE : tE b n i = tP b n i := if_pos e0
    have eK : tK b n i = 0 := if_pos e0
    refine ⟨rfl, ⟨?_, ?_, rfl, ?_⟩, hf1.tr (kx_Fc.set ⟨rfl, by decide, by decide⟩)⟩
    · rw [eE]; exact h8
    · rw [eK]; rfl
    · intro z; omega
theorem y_scan_loop {l : Launch} {g : kx_G} {d : Nat} {h0 : kx_Mem} (hm0 : SM h0) (b : Nat → Int32) (n i : Nat) (ht0 : TapM b n h0) (hby : BY b) (hin : i ≤ n) : ∀ f k, k + f = n → ∀ h, kx_Fs h0 h → i ≤ k → h.1 84 8 = nI k → tP b n i = run isBl b n k → kx_X (l, g, m_Mo_scan, d + 1, 0, 0, (fun v h' => v = none ∧ TokM b n i h' ∧ kx_Fs h0 h')) 0 0 0 [some (.ref 84), none] [] h := by
  intro f
  have hn6 := ht0.2.1
  induction f with
  | zero =>
    intro k hk h hf hik h2 hr
    have hm := hm0.fc hf
    have ht := ht0.fs hf
    refine kx_aload_n (pc := 0) (kx_dd d_Mo_scan 0 rfl) rfl rfl ?_
    refine kx_getI (pc := 1) fl_Mo_43 (hm.k 0 rfl) rfl (kx_dd d_Mo_scan 1 rfl) ?_
    refine kx_aload_n (pc := 4) (kx_dd d_Mo_scan 2 rfl) rfl rfl ?_
    refine kx_getI (pc := 5) fl_Mo_40 (hm.k 0 rfl) rfl (kx_dd d_Mo_scan 3 rfl) ?_
    refine kx_icmp_ge (pc := 8) (tgt := 52) (kx_dd d_Mo_scan 4 rfl) rfl (fun c8 => ?_) (fun c8 => ?_)
    · exact y_scan_at hm0 b n i ht0 hby hin h hf (by rw [h2, hr, run_end (by omega)])
    · exact absurd (by rw [h2, ht.1]; exact nI_le (by omega) (by omega)) c8
  | succ f ih =>
    intro k hk h hf hik h2 hr
    have hm := hm0.fc hf
    have ht := ht0.fs hf
    have hb := ht.2.2 k (by omega)
    refine kx_aload_n (pc := 0) (kx_dd d_Mo_scan 0 rfl) rfl rfl ?_
    refine kx_getI (pc := 1) fl_Mo_43 (hm.k 0 rfl) rfl (kx_dd d_Mo_scan 1 rfl) ?_
    refine kx_aload_n (pc := 4) (kx_dd d_Mo_scan 2 rfl) rfl rfl ?_
    refine kx_getI (pc := 5) fl_Mo_40 (hm.k 0 rfl) rfl (kx_dd d_Mo_scan 3 rfl) ?_
    refine kx_icmp_ge (pc := 8) (tgt := 52) (kx_dd d_Mo_scan 4 rfl) rfl (fun c8 => ?_) (fun c8 => ?_)
    · exact absurd c8 (by rw [h2, ht.1]; exact nI_ge (by omega) (by omega))
    · refine kx_aload_n (pc := 11) (kx_dd d_Mo_scan 5 rfl) rfl rfl ?_
      refine kx_getR (pc := 12) (b := 88) fl_Mo_21 (hm.k 0 rfl) rfl (hm.r 3 rfl) (kx_dd d_Mo_scan 6 rfl) ?_
      refine kx_aload_n (pc := 15) (kx_dd d_Mo_scan 7 rfl) rfl rfl ?_
      refine kx_getI (pc := 16) fl_Mo_43 (hm.k 0 rfl) rfl (kx_dd d_Mo_scan 8 rfl) ?_
      refine kx_baldn (pc := 19) k (hm.t 4 rfl) h2 (by omega) (by decide) (kx_dd d_Mo_scan 9 rfl) ?_
      refine kx_bipush (pc := 20) (v := 32) (kx_dd d_Mo_scan 10 rfl) rfl ?_
      refine kx_icmp_eq (pc := 22) (tgt := 39) (kx_dd d_Mo_scan 11 rfl) rfl (fun c22 => ?_) (fun c22 => ?_)
      · refine kx_aload_n (pc := 39) (kx_dd d_Mo_scan 19 rfl) rfl rfl ?_
        refine kx_dup (pc := 40) (kx_dd d_Mo_scan 20 rfl) rfl ?_
        refine kx_getI (pc := 41) fl_Mo_43 (hm.k 0 rfl) rfl (kx_dd d_Mo_scan 21 rfl) ?_
        refine kx_iconst (pc := 44) (v := 1) (kx_dd d_Mo_scan 22 rfl) rfl ?_
        refine kx_iadd (pc := 45) (kx_dd d_Mo_scan 23 rfl) ?_
        refine kx_putI (pc := 46) fl_Mo_43 (hm.k 0 rfl) (by decide) rfl rfl (kx_dd d_Mo_scan 24 rfl) ?_
        refine kx_goto (pc := 49) (tgt := 0) (kx_dd d_Mo_scan 25 rfl) rfl ?_
        rw [hb] at c22
        have hP : isBl (b k) = true := isBl_i.mpr (Or.inl c22)
        rw [h2, nI_1]
        exact ih (k + 1) (by omega) _ (hf.tr (kx_Fc.set ⟨rfl, by decide, by decide⟩)) (by omega) (by simp [kx_setI, kx_up]) (hr.trans (run_yes (by omega) hP))
      · refine kx_aload_n (pc := 25) (kx_dd d_Mo_scan 12 rfl) rfl rfl ?_
        refine kx_getR (pc := 26) (b := 88) fl_Mo_21 (hm.k 0 rfl) rfl (hm.r 3 rfl) (kx_dd d_Mo_scan 13 rfl) ?_
        refine kx_aload_n (pc := 29) (kx_dd d_Mo_scan 14 rfl) rfl rfl ?_
        refine kx_getI (pc := 30) fl_Mo_43 (hm.k 0 rfl) rfl (kx_dd d_Mo_scan 15 rfl) ?_
        refine kx_baldn (pc := 33) k (hm.t 4 rfl) h2 (by omega) (by decide) (kx_dd d_Mo_scan 16 rfl) ?_
        refine kx_bipush (pc := 34) (v := 10) (kx_dd d_Mo_scan 17 rfl) rfl ?_
        refine kx_icmp_ne (pc := 36) (tgt := 52) (kx_dd d_Mo_scan 18 rfl) rfl (fun c36 => ?_) (fun c36 => ?_)
        · rw [hb] at c22 c36
          exact y_scan_at hm0 b n i ht0 hby hin h hf (by rw [h2, hr, run_no (fun z => (isBl_i.mp z).elim c22 c36)])
        · refine kx_aload_n (pc := 39) (kx_dd d_Mo_scan 19 rfl) rfl rfl ?_
          refine kx_dup (pc := 40) (kx_dd d_Mo_scan 20 rfl) rfl ?_
          refine kx_getI (pc := 41) fl_Mo_43 (hm.k 0 rfl) rfl (kx_dd d_Mo_scan 21 rfl) ?_
          refine kx_iconst (pc := 44) (v := 1) (kx_dd d_Mo_scan 22 rfl) rfl ?_
          refine kx_iadd (pc := 45) (kx_dd d_Mo_scan 23 rfl) ?_
          refine kx_putI (pc := 46) fl_Mo_43 (hm.k 0 rfl) (by decide) rfl rfl (kx_dd d_Mo_scan 24 rfl) ?_
          refine kx_goto (pc := 49) (tgt := 0) (kx_dd d_Mo_scan 25 rfl) rfl ?_
          rw [hb] at c22
          rw [hb] at c36
          have hP : isBl (b k) = true := isBl_i.mpr (Or.inr c36)
          rw [h2, nI_1]
          exact ih (k + 1) (by omega) _ (hf.tr (kx_Fc.set ⟨rfl, by decide, by decide⟩)) (by omega) (by simp [kx_setI, kx_up]) (hr.trans (run_yes (by omega) hP))
theorem y_scan {l : Launch} {g : kx_G} {d : Nat} {h : kx_Mem} (hm : SM h) (b : Nat → Int32) (n i : Nat) (ht : TapM b n h) (hby : BY b) (hin : i ≤ n) (h2 : h.1 84 8 = nI i) : kx_Sp l g m_Mo_scan [.ref 84] h (d + 1) 0 0 (fun v h' => v = none ∧ TokM b n i h' ∧ kx_Fs h h') := by
  refine kx_enter_e (lv := [_, _]) (by decide +kernel) (Nat.le_of_ble_eq_true rfl) rfl ?_
  exact y_scan_loop hm b n i ht hby hin (n - i) i (by omega) h kx_Fc.rf (Nat.le_refl _) h2 rfl
