/-! the fund: wave -/
def wvM (S : FS3) (th k : Nat) : Nat := minN S.2.1 (cN S.1.2.2.1 k 10 * th / 1000 - cN S.1.2.2.1 k 11)
noncomputable def wavK (td th : Nat) (S : FS3) : Nat → Nat × FS3
  | 0 => (0, S)
  | k + 1 => ((wavK td th S k).1 + wvM (wavK td th S k).2 th k, payM td (wavK td th S k).2 k (wvM (wavK td th S k).2 th k))
def askD (D : DK) : Nat := sumA D.2.2.1 D.2.2.1.1 + sumP2 D.2.2.1 D.2.2.1.1
noncomputable def wavR (S : FS3) (M pt td : Nat) : Nat × FS3 := if askD S.1 = 0 then (0, S) else wavK td (minN (1000 * M / askD S.1) (10 * pt)) S S.1.2.2.1.1
theorem wavK_ok {td th M : Nat} {S : FS3} (ho : DKok S.1) (hI : FnI S M) : ∀ k, k ≤ S.1.2.2.1.1 → DKok (wavK td th S k).2.1 ∧ FnI (wavK td th S k).2 M ∧ ((wavK td th S k).2.1.2.2.1.1 = S.1.2.2.1.1 ∧ (wavK td th S k).2.1.1 = S.1.1 ∧ (wavK td th S k).2.1.2.1 = S.1.2.1) ∧ ∀ c j, j ≠ 11 → cN (wavK td th S k).2.1.2.2.1 c j = cN S.1.2.2.1 c j
  | 0, _ => ⟨ho, hI, ⟨rfl, rfl, rfl⟩, fun _ _ _ => rfl⟩
  | k + 1, hk => by
    obtain ⟨h1, h2, ⟨h3, h4, h5⟩, h6⟩ := wavK_ok (td := td) (th := th) ho hI k (by omega)
    have e : wavK td th S (k + 1) = ((wavK td th S k).1 + wvM (wavK td th S k).2 th k, payM td (wavK td th S k).2 k (wvM (wavK td th S k).2 th k)) := rfl
    rw [e]
    have hn := payM_n (td := td) (c := k) (m := wvM (wavK td th S k).2 th k) (S := (wavK td th S k).2)
    exact ⟨payM_ok h1, payM_I h2 (by omega) minN_l, ⟨hn.1.trans h3, hn.2.1.trans h4, hn.2.2.trans h5⟩, fun c j hj => (payM_cN hj).trans (h6 c j hj)⟩
theorem sumA_z {s : CSt} : ∀ n, sumA s n = 0 → ∀ k, k < n → cN s k 10 = 0
  | 0, _, k, hk => absurd hk (Nat.not_lt_zero k)
  | n + 1, h, k, hk => by
    have h2 : sumA s n + cN s n 10 = 0 := h
    rcases Nat.lt_succ_iff_lt_or_eq.mp hk with z | z
    · exact sumA_z n (by omega) k z
    · rw [z]; omega
theorem wavK_0 {td th : Nat} {S : FS3} (h : ∀ k, k < S.1.2.2.1.1 → cN S.1.2.2.1 k 10 = 0) : ∀ k, k ≤ S.1.2.2.1.1 → wavK td th S k = (0, S)
  | 0, _ => rfl
  | k + 1, hk => by
    have ih := wavK_0 (td := td) (th := th) h k (by omega)
    have e : wavK td th S (k + 1) = ((wavK td th S k).1 + wvM (wavK td th S k).2 th k, payM td (wavK td th S k).2 k (wvM (wavK td th S k).2 th k)) := rfl
    have e2 : wvM S th k = 0 := by
      unfold wvM minN
      rw [h k (by omega), Nat.zero_mul, Nat.zero_div, Nat.zero_sub, if_neg (Nat.not_lt_zero _)]
    rw [e, ih, e2]
    rfl
theorem mul_le_th {a th : Nat} (ha : a ≤ 6600000) (ht : th ≤ 1000) : a * th / 1000 ≤ 6600000 ∧ a * th ≤ 6600000000 := by
  have : a * th ≤ 6600000 * 1000 := Nat.mul_le_mul ha ht
  constructor <;> omega
theorem FSc3.sc {S : FS3} {A : DA} {h : kx_Mem} (h1 : FSc3 S A h) : DKc S.1 A h := h1.1
theorem minLN {x y : Nat} (hx : x < 2 ^ 62) (hy : y < 2 ^ 62) : (if lN y < lN x then lN y else lN x) = lN (minN y x) := by
  unfold minN
  by_cases e : y < x
  · rw [if_pos ((pk_lLT (by omega) (by omega)).mpr e), if_pos e]
  · rw [if_neg (fun z => e ((pk_lLT (by omega) (by omega)).mp z)), if_neg e]
theorem x_wv_loop {l : Launch} {g : kx_G} {d : Nat} (h0 : kx_Mem) (hs0 : SC h0) (S : FS3) (A : DA) (ho : DKok S.1) (M : Nat) (hI : FnI S M) (td : Nat) (htd : td < 2 ^ 31) (th : Nat) (hth : th ≤ 1000) (x1 : Int32) (x3 : Int64) : ∀ f k, k + f = S.1.2.2.1.1 → ∀ h w9, kx_Fc FpC h0 h → FSc3 (wavK td th S k).2 A h → kx_X (l, g, m_Fu_payWave, d + 8, 0, 0, (fun v h' => v = some (.int (nI (wavK td th S S.1.2.2.1.1).1)) ∧ FSc3 (wavK td th S S.1.2.2.1.1).2 A h' ∧ kx_Fc FpC h0 h')) 0 0 54 [some (.ref 45), some (.int x1), some (.int (nI td)), some (.long x3), none, some (.long (lN th)), none, some (.int (nI (wavK td th S k).1)), some (.int (nI k)), w9] [] h := by
  intro f
  induction f with
  | zero =>
    intro k hk h w9 hf hS
    have e : k = S.1.2.2.1.1 := by omega
    subst e
    have hs : SC h := hs0.fc hf
    obtain ⟨-, -, ⟨n1, -, -⟩, -⟩ := wavK_ok (td := td) (th := th) ho hI S.1.2.2.1.1 (Nat.le_refl _)
    have hp := hS.1
    have n2 : (wavK td th S S.1.2.2.1.1).2.1.2.2.1.1 = S.1.2.2.1.1 := n1
    refine kx_iload (pc := 54) (kx_dd d_Fu_payWave 33 rfl) rfl ?_
    refine kx_aload_n (pc := 56) (kx_dd d_Fu_payWave 34 rfl) rfl rfl ?_
    refine kx_getR (pc := 57) (b := 39) fl_Fu_24 (hs.k 45 rfl) rfl (hs.r 48 rfl) (kx_dd d_Fu_payWave 35 rfl) ?_
    refine kx_getR (pc := 60) (b := 40) fl_Fu_52 (hs.k 39 rfl) rfl (hs.r 43 rfl) (kx_dd d_Fu_payWave 36 rfl) ?_
    refine kx_invV (pc := 63) (a := 40) (as := []) (kx_dd d_Fu_payWave 37 rfl) ⟨lk_Fu_56, wi_AL_size, we_AL_size⟩ w_AL_size (hs.k 40 rfl) rfl rfl rfl rfl (Nat.le_of_ble_eq_true rfl) (x_AL_size (d := d + 7) 40 (wavK td th S S.1.2.2.1.1).2.1.2.2.1.1 A.2.2.1 A.2.2.2.1 A.1 (DKc.k40 hs).1 hp.2.2.1) (Nat.le_refl _) ⟨Nat.le_refl _, Nat.le_refl _⟩ (fun v h' hq => ?_)
    obtain ⟨rfl, he⟩ := hq
    rw [he]
    clear he
    refine kx_icmp_ge (pc := 66) (tgt := 124) (kx_dd d_Fu_payWave 38 rfl) rfl (fun c66 => ?_) (fun c66 => ?_)
    · refine kx_iload (pc := 124) (kx_dd d_Fu_payWave 66 rfl) rfl ?_
      refine kx_iret (pc := 126) rfl (kx_dd d_Fu_payWave 67 rfl) (Nat.le_refl _) (Nat.le_refl _) ?_
      exact ⟨rfl, hS, hf⟩
    · exact absurd (by rw [n2]; exact Int32.le_refl _) c66
  | succ f ih =>
    intro k hk h w9 hf hS
    have hs : SC h := hs0.fc hf
    obtain ⟨ho1, hI1, ⟨n1, -, -⟩, f1⟩ := wavK_ok (td := td) (th := th) ho hI k (by omega)
    obtain ⟨S1, hS1⟩ : ∃ S1, (wavK td th S k).2 = S1 := ⟨_, rfl⟩
    rw [hS1] at ho1 hI1 n1 f1 hS
    have hk : k < S1.1.2.2.1.1 := by omega
    have o1 := ho.2.2.1.1
    obtain ⟨-, -, -, -, -, -, -, -, -, -, -, q10, -⟩ := ho1.2.2.1.2 k hk
    have hI2 := hI1.2.2 k hk
    have hM9 := hI1.1
    have ml := mul_le_th q10 hth
    have e10n : cN S1.1.2.2.1 k 10 * th < 2 ^ 62 := by omega
    obtain ⟨pi1, pi2⟩ := payI (a := cN S1.1.2.2.1 k 10 * th / 1000) (q := cN S1.1.2.2.1 k 11) (K := S1.2.1) (by omega) (by omega) (by have := hI1.2.1; omega)
    have hp := hS.1
    have e10 : h.1 (A.1 k) 10 = nI (cN S1.1.2.2.1 k 10) := ((hp.2.2.2.2.1.2 k hk).2.2.2.1 10 (by decide) (by decide)).trans ((ho1.2.2.1.2 k hk).1 10 (by decide) (by decide) (by decide) (by decide))
    have e11 : h.1 (A.1 k) 11 = nI (cN S1.1.2.2.1 k 11) := ((hp.2.2.2.2.1.2 k hk).2.2.2.1 11 (by decide) (by decide)).trans hI2.1
    refine kx_iload (pc := 54) (kx_dd d_Fu_payWave 33 rfl) rfl ?_
    refine kx_aload_n (pc := 56) (kx_dd d_Fu_payWave 34 rfl) rfl rfl ?_
    refine kx_getR (pc := 57) (b := 39) fl_Fu_24 (hs.k 45 rfl) rfl (hs.r 48 rfl) (kx_dd d_Fu_payWave 35 rfl) ?_
    refine kx_getR (pc := 60) (b := 40) fl_Fu_52 (hs.k 39 rfl) rfl (hs.r 43 rfl) (kx_dd d_Fu_payWave 36 rfl) ?_
    refine kx_invV (pc := 63) (a := 40) (as := []) (kx_dd d_Fu_payWave 37 rfl) ⟨lk_Fu_56, wi_AL_size, we_AL_size⟩ w_AL_size (hs.k 40 rfl) rfl rfl rfl rfl (Nat.le_of_ble_eq_true rfl) (x_AL_size (d := d + 7) 40 S1.1.2.2.1.1 A.2.2.1 A.2.2.2.1 A.1 (DKc.k40 hs).1 hp.2.2.1) (Nat.le_refl _) ⟨Nat.le_refl _, Nat.le_refl _⟩ (fun v h' hq => ?_)
    obtain ⟨rfl, he⟩ := hq
    rw [he]
    clear he
    refine kx_icmp_ge (pc := 66) (tgt := 124) (kx_dd d_Fu_payWave 38 rfl) rfl (fun c66 => ?_) (fun c66 => ?_)
    · exact absurd c66 (by rw [n1]; exact nI_ge (by omega) (by omega))
    · refine kx_aload_n (pc := 69) (kx_dd d_Fu_payWave 39 rfl) rfl rfl ?_
      refine kx_getR (pc := 70) (b := 39) fl_Fu_24 (hs.k 45 rfl) rfl (hs.r 48 rfl) (kx_dd d_Fu_payWave 40 rfl) ?_
      refine kx_getR (pc := 73) (b := 40) fl_Fu_52 (hs.k 39 rfl) rfl (hs.r 43 rfl) (kx_dd d_Fu_payWave 41 rfl) ?_
      refine kx_iload (pc := 76) (kx_dd d_Fu_payWave 42 rfl) rfl ?_
      refine kx_invV (pc := 78) (a := 40) (as := [_]) (kx_dd d_Fu_payWave 43 rfl) ⟨lk_Fu_61, wi_AL_get, we_AL_get⟩ w_AL_get (hs.k 40 rfl) rfl rfl rfl rfl (Nat.le_of_ble_eq_true rfl) (x_AL_get (d := d + 5) 40 S1.1.2.2.1.1 A.2.2.1 A.2.2.2.1 A.1 (DKc.k40 hs).1 hp.2.2.1 k hk) (Nat.le_refl _) ⟨Nat.le_refl _, Nat.le_refl _⟩ (fun v h' hq => ?_)
      obtain ⟨rfl, he⟩ := hq
      rw [he]
      clear he
      refine kx_cast (pc := 81) (ci := 1) (congrArg Prod.fst (hp.2.2.2.2.1.2 k hk).2.2.1) rfl cl_Fu_65 (kx_dd d_Fu_payWave 44 rfl) ?_
      refine kx_astore_e (pc := 84) (lv' := [_, _, _, _, _, _, _, _, _, _]) (kx_dd d_Fu_payWave 45 rfl) (Nat.le_of_ble_eq_true rfl) rfl ?_
      refine kx_iload (pc := 86) (kx_dd d_Fu_payWave 46 rfl) rfl ?_
      refine kx_aload_n (pc := 88) (kx_dd d_Fu_payWave 47 rfl) rfl rfl ?_
      refine kx_aload (pc := 89) (kx_dd d_Fu_payWave 48 rfl) rfl ?_
      refine kx_aload (pc := 91) (kx_dd d_Fu_payWave 49 rfl) rfl ?_
      refine kx_getI (pc := 93) fl_Fu_67 (congrArg Prod.fst (hp.2.2.2.2.1.2 k hk).2.2.1) rfl (kx_dd d_Fu_payWave 50 rfl) ?_
      refine kx_i2l (pc := 96) (kx_dd d_Fu_payWave 51 rfl) ?_
      refine kx_lload (pc := 97) (kx_dd d_Fu_payWave 52 rfl) rfl ?_
      refine kx_lmul (pc := 99) (kx_dd d_Fu_payWave 53 rfl) ?_
      refine kx_ldc2 (pc := 100) kl_Fu_44 (kx_dd d_Fu_payWave 54 rfl) ?_
      refine kx_ldiv (pc := 103) (kx_dd d_Fu_payWave 55 rfl) (by decide) ?_
      refine kx_aload (pc := 104) (kx_dd d_Fu_payWave 56 rfl) rfl ?_
      refine kx_getI (pc := 106) fl_Fu_70 (congrArg Prod.fst (hp.2.2.2.2.1.2 k hk).2.2.1) rfl (kx_dd d_Fu_payWave 57 rfl) ?_
      refine kx_i2l (pc := 109) (kx_dd d_Fu_payWave 58 rfl) ?_
      refine kx_lsub (pc := 110) (kx_dd d_Fu_payWave 59 rfl) ?_
      refine kx_iload_n (pc := 111) (kx_dd d_Fu_payWave 60 rfl) rfl rfl ?_
      rw [e10, e11, nI_l (by omega), nI_l (by omega), lN_mul, show (1000 : Int64) = lN 1000 from rfl, pk_lDiv (by omega) (by decide) (by decide)]
      refine kx_invV (pc := 112) (a := 45) (as := [_, _, _]) (kx_dd d_Fu_payWave 61 rfl) ⟨lk_Fu_73, wi_Fu_pay, we_Fu_pay⟩ w_Fu_pay (hs.k 45 rfl) rfl rfl rfl rfl (Nat.le_of_ble_eq_true rfl) (x_Fu_pay (d := d) hs S1 A ho1 hS td htd k hk (lN (cN S1.1.2.2.1 k 10 * th / 1000) - lN (cN S1.1.2.2.1 k 11)) _ (wvM S1 th k) (by rw [nI_l (by have := hI1.2.1; omega)]) pi1 pi2 minN_l (by have := hI1.2.1; omega)) (Nat.le_refl _) ⟨Nat.le_refl _, Nat.le_refl _⟩ (fun v h' hq => ?_)
      revert h'
      intro h1 hq
      obtain ⟨rfl, hS9, hf9⟩ := hq
      refine kx_iadd (pc := 115) (kx_dd d_Fu_payWave 62 rfl) ?_
      rw [nI_add]
      refine kx_istore_e (pc := 116) (lv' := [_, _, _, _, _, _, _, _, _, _]) (kx_dd d_Fu_payWave 63 rfl) (Nat.le_of_ble_eq_true rfl) rfl ?_
      refine kx_iinc_e (pc := 118) (v := nI (k + 1)) (lv' := [_, _, _, _, _, _, _, _, _, _]) (kx_dd d_Fu_payWave 64 rfl) rfl (Nat.le_of_ble_eq_true rfl) (nI_1 k) rfl ?_
      refine kx_goto (pc := 121) (tgt := 54) (kx_dd d_Fu_payWave 65 rfl) rfl ?_
      have e : wavK td th S (k + 1) = ((wavK td th S k).1 + wvM S1 th k, payM td S1 k (wvM S1 th k)) := by rw [← hS1]; rfl
      have ih1 := ih (k + 1) (by omega)
      rw [e] at ih1
      exact ih1 h1 _ (hf.tr hf9) hS9
theorem x_Fu_payWave {l : Launch} {g : kx_G} {d : Nat} {h : kx_Mem} (hs : SC h) (S : FS3) (A : DA) (ho : DKok S.1) (hS : FSc3 S A h) (M : Nat) (hI : FnI S M) (hcm : h.1 45 2 = nI M) (td : Nat) (htd : td < 2 ^ 31) (pt : Nat) (hpt : pt ≤ 100) : kx_Sp l g m_Fu_payWave [.ref 45, .int (nI pt), .int (nI td)] h (d + 8) 0 0 (fun v h' => v = some (.int (nI (wavR S M pt td).1)) ∧ FSc3 (wavR S M pt td).2 A h' ∧ kx_Fc FpC h h') := by
  have o1 := ho.2.2.1.1
  have sa := sumA_le ho.2.2.1 S.1.2.2.1.1 (Nat.le_refl _)
  have sp := sumP2_le ho.2.2.1 S.1.2.2.1.1 (Nat.le_refl _)
  have hM9 := hI.1
  have hask : askD S.1 = sumA S.1.2.2.1 S.1.2.2.1.1 + sumP2 S.1.2.2.1 S.1.2.2.1.1 := rfl
  have hp := hS.1
  refine kx_enter_e (lv := [_, _, _, _, _, _, _, _, _, _]) (by decide +kernel) (Nat.le_of_ble_eq_true rfl) rfl ?_
  refine kx_aload_n (pc := 0) (kx_dd d_Fu_payWave 0 rfl) rfl rfl ?_
  refine kx_getR (pc := 1) (b := 39) fl_Fu_24 (hs.k 45 rfl) rfl (hs.r 48 rfl) (kx_dd d_Fu_payWave 1 rfl) ?_
  refine kx_invV (pc := 4) (a := 39) (as := []) (kx_dd d_Fu_payWave 2 rfl) ⟨lk_Fu_35, wi_Do_sumOfAwards, we_Do_sumOfAwards⟩ w_Do_sumOfAwards (hs.k 39 rfl) rfl rfl rfl rfl (Nat.le_of_ble_eq_true rfl) (x_Do_sumOfAwards (d := d + 4) hs S.1 A ho hp) (Nat.le_refl _) ⟨Nat.le_refl _, Nat.le_refl _⟩ (fun v h' hq => ?_)
  obtain ⟨rfl, he⟩ := hq
  rw [he]
  clear he
  refine kx_i2l (pc := 7) (kx_dd d_Fu_payWave 3 rfl) ?_
  refine kx_aload_n (pc := 8) (kx_dd d_Fu_payWave 4 rfl) rfl rfl ?_
  refine kx_getR (pc := 9) (b := 39) fl_Fu_24 (hs.k 45 rfl) rfl (hs.r 48 rfl) (kx_dd d_Fu_payWave 5 rfl) ?_
  refine kx_invV (pc := 12) (a := 39) (as := []) (kx_dd d_Fu_payWave 6 rfl) ⟨lk_Fu_39, wi_Do_pendingAmounts, we_Do_pendingAmounts⟩ w_Do_pendingAmounts (hs.k 39 rfl) rfl rfl rfl rfl (Nat.le_of_ble_eq_true rfl) (x_Do_pendingAmounts (d := d + 4) hs S.1 A ho hp) (Nat.le_refl _) ⟨Nat.le_refl _, Nat.le_refl _⟩ (fun v h' hq => ?_)
  obtain ⟨rfl, he⟩ := hq
  rw [he]
  clear he
  refine kx_i2l (pc := 15) (kx_dd d_Fu_payWave 7 rfl) ?_
  refine kx_ladd (pc := 16) (kx_dd d_Fu_payWave 8 rfl) ?_
  refine kx_lstore_ne (pc := 17) (lv' := [_, _, _, _, _, _, _, _, _, _]) (kx_dd d_Fu_payWave 9 rfl) rfl (Nat.le_of_ble_eq_true rfl) rfl ?_
  rw [nI_l (by omega), nI_l (by omega), lN_add]
  refine kx_lload_n (pc := 18) (kx_dd d_Fu_payWave 10 rfl) rfl rfl ?_
  refine kx_lconst (pc := 19) (v := 0) (kx_dd d_Fu_payWave 11 rfl) rfl ?_
  refine kx_lcmp (pc := 20) (kx_dd d_Fu_payWave 12 rfl) ?_
  refine kx_if_gt (pc := 21) (tgt := 26) (kx_dd d_Fu_payWave 13 rfl) rfl (fun c21 => ?_) (fun c21 => ?_)
  · rw [lg_gt, show (0 : Int64) = lN 0 from rfl, pk_lLT (by decide) (by omega)] at c21
    refine kx_ldc2 (pc := 26) kl_Fu_42 (kx_dd d_Fu_payWave 16 rfl) ?_
    refine kx_iload_n (pc := 29) (kx_dd d_Fu_payWave 17 rfl) rfl rfl ?_
    refine kx_i2l (pc := 30) (kx_dd d_Fu_payWave 18 rfl) ?_
    refine kx_lmul (pc := 31) (kx_dd d_Fu_payWave 19 rfl) ?_
    rw [nI_l (by omega), show (10 : Int64) = lN 10 from rfl, lN_mul]
    refine kx_ldc2 (pc := 32) kl_Fu_44 (kx_dd d_Fu_payWave 20 rfl) ?_
    refine kx_aload_n (pc := 35) (kx_dd d_Fu_payWave 21 rfl) rfl rfl ?_
    refine kx_getI (pc := 36) fl_Fu_28 (hs.k 45 rfl) rfl (kx_dd d_Fu_payWave 22 rfl) ?_
    refine kx_i2l (pc := 39) (kx_dd d_Fu_payWave 23 rfl) ?_
    refine kx_lmul (pc := 40) (kx_dd d_Fu_payWave 24 rfl) ?_
    rw [hcm, nI_l (by omega), show (1000 : Int64) = lN 1000 from rfl, lN_mul]
    refine kx_lload_n (pc := 41) (kx_dd d_Fu_payWave 25 rfl) rfl rfl ?_
    refine kx_ldiv (pc := 42) (kx_dd d_Fu_payWave 26 rfl) (by intro z; have := (pk_lEQ (b := 0) (by omega) (by decide)).mp z; omega) ?_
    rw [pk_lDiv (by omega) (by omega) (by omega)]
    have hdv : 1000 * M / (sumA S.1.2.2.1 S.1.2.2.1.1 + sumP2 S.1.2.2.1 S.1.2.2.1.1) ≤ 1000 * M := Nat.div_le_self _ _
    refine kx_mminL (pc := 43) mk_Fu_46 (kx_dd d_Fu_payWave 27 rfl) (Nat.le_of_ble_eq_true rfl) (Nat.le_of_ble_eq_true rfl) (Nat.le_refl _) (Nat.le_refl _) ?_
    rw [minLN (by omega) (by omega)]
    refine kx_lstore_e (pc := 46) (lv' := [_, _, _, _, _, _, _, _, _, _]) (kx_dd d_Fu_payWave 28 rfl) (Nat.le_of_ble_eq_true rfl) rfl ?_
    refine kx_iconst (pc := 48) (v := 0) (kx_dd d_Fu_payWave 29 rfl) rfl ?_
    refine kx_istore_e (pc := 49) (lv' := [_, _, _, _, _, _, _, _, _, _]) (kx_dd d_Fu_payWave 30 rfl) (Nat.le_of_ble_eq_true rfl) rfl ?_
    refine kx_iconst (pc := 51) (v := 0) (kx_dd d_Fu_payWave 31 rfl) rfl ?_
    refine kx_istore_e (pc := 52) (lv' := [_, _, _, _, _, _, _, _, _, _]) (kx_dd d_Fu_payWave 32 rfl) (Nat.le_of_ble_eq_true rfl) rfl ?_
    have hth : (minN (1000 * M / askD S.1) (10 * pt)) ≤ 1000 := Nat.le_trans minN_r (by omega)
    have e : wavR S M pt td = wavK td (minN (1000 * M / askD S.1) (10 * pt)) S S.1.2.2.1.1 := if_neg (by omega)
    rw [e]
    exact x_wv_loop h hs S A ho M hI td htd (minN (1000 * M / askD S.1) (10 * pt)) hth _ _ S.1.2.2.1.1 0 (by omega) h _ kx_Fc.rf hS
  · refine kx_iconst (pc := 24) (v := 0) (kx_dd d_Fu_payWave 14 rfl) rfl ?_
    refine kx_iret (pc := 25) rfl (kx_dd d_Fu_payWave 15 rfl) (Nat.le_refl _) (Nat.le_refl _) ?_
    rw [lg_gt, show (0 : Int64) = lN 0 from rfl, pk_lLT (by decide) (by omega)] at c21
    exact ⟨by rw [show wavR S M pt td = (0, S) from if_pos (by omega)]; rfl, by rw [show wavR S M pt td = (0, S) from if_pos (by omega)]; exact hS, kx_Fc.rf⟩
theorem x_Tc_wave {l : Launch} {g : kx_G} {d : Nat} {h : kx_Mem} (hs : SC h) (S : FS3) (A : DA) (ho : DKok S.1) (hS : FSc3 S A h) (M : Nat) (hI : FnI S M) (hcm : h.1 45 2 = nI M) (AV : Nat → Nat) (DV : Nat) (V : Nat → RU) (hV : CVs AV DV V h) (u : Nat) (hu : u < 4) (hif : h.1 0 10 = nI u) (hse : RSet (V u)) (td : Nat) (htd : td < 2 ^ 31) (hck : h.1 0 9 = nI td) : kx_Sp l g m_Tc_wave [.ref 0] h (d + 9) 0 0 (fun v h' => v = some (.int (nI (wavR S M (rsN (V u) 10) td).1)) ∧ FSc3 (wavR S M (rsN (V u) 10) td).2 A h' ∧ kx_Fc FpC h h') := by
  refine kx_enter_e (lv := [_, _]) (by decide +kernel) (Nat.le_of_ble_eq_true rfl) rfl ?_
  refine kx_aload_n (pc := 0) (kx_dd d_Tc_wave 0 rfl) rfl rfl ?_
  refine kx_aload_n (pc := 1) (kx_dd d_Tc_wave 1 rfl) rfl rfl ?_
  refine kx_getI (pc := 2) fl_Tc_148 (hs.k 0 rfl) rfl (kx_dd d_Tc_wave 2 rfl) ?_
  rw [hif]
  refine kx_invV (pc := 5) (a := 0) (as := [_]) (kx_dd d_Tc_wave 3 rfl) ⟨lk_Tc_151, wi_Tc_versionAt, we_Tc_versionAt⟩ w_Tc_versionAt (hs.k 0 rfl) rfl rfl rfl rfl (Nat.le_of_ble_eq_true rfl) (x_Tc_versionV (d := d + 7) hs AV DV V hV u hu) (Nat.le_refl _) ⟨Nat.le_refl _, Nat.le_refl _⟩ (fun v h' hq => ?_)
  obtain ⟨rfl, he⟩ := hq
  rw [he]
  clear he
  refine kx_astore_ne (pc := 8) (lv' := [_, _]) (kx_dd d_Tc_wave 4 rfl) rfl (Nat.le_of_ble_eq_true rfl) rfl ?_
  refine kx_aload_n (pc := 9) (kx_dd d_Tc_wave 5 rfl) rfl rfl ?_
  refine kx_ifnonnull (pc := 10) (tgt := 17) (kx_dd d_Tc_wave 6 rfl) rfl ?_
  refine kx_aload_n (pc := 17) (kx_dd d_Tc_wave 9 rfl) rfl rfl ?_
  refine kx_getR (pc := 18) (b := 45) fl_Tc_73 (hs.k 0 rfl) rfl (hs.r 8 rfl) (kx_dd d_Tc_wave 10 rfl) ?_
  refine kx_aload_n (pc := 21) (kx_dd d_Tc_wave 11 rfl) rfl rfl ?_
  refine kx_getR (pc := 22) (b := (AV u + 1)) fl_Tc_246 (congrArg Prod.fst (IsRu.of hs (hV.2.2 u hu).2.1).1) rfl (IsRu.of hs (hV.2.2 u hu).2.1).2.2.2.2.2.2.2.2.2.1 (kx_dd d_Tc_wave 12 rfl) ?_
  refine kx_bipush (pc := 25) (v := 10) (kx_dd d_Tc_wave 13 rfl) rfl ?_
  refine kx_ialdn (pc := 27) 10 ((IsRu.of hs (hV.2.2 u hu).2.1).2.1) rfl (by decide) (by decide) (kx_dd d_Tc_wave 14 rfl) ?_
  rw [(hV.2.2 u hu).2.2.2.2.1.1 10 (by decide), hse.1 10 (by decide) (by decide)]
  refine kx_aload_n (pc := 28) (kx_dd d_Tc_wave 15 rfl) rfl rfl ?_
  refine kx_getI (pc := 29) fl_Tc_94 (hs.k 0 rfl) rfl (kx_dd d_Tc_wave 16 rfl) ?_
  rw [hck]
  refine kx_invV (pc := 32) (a := 45) (as := [_, _]) (kx_dd d_Tc_wave 17 rfl) ⟨lk_Tc_328, wi_Fu_payWave, we_Fu_payWave⟩ w_Fu_payWave (hs.k 45 rfl) rfl rfl rfl rfl (Nat.le_of_ble_eq_true rfl) (x_Fu_payWave (d := d) hs S A ho hS M hI hcm td htd (rsN (V u) 10) hse.2.2.2.2.2.2.2.1) (Nat.le_refl _) ⟨Nat.le_refl _, Nat.le_refl _⟩ (fun v h' hq => ?_)
  revert h'
  intro h1 hq
  obtain ⟨rfl, hS9, hf9⟩ := hq
  refine kx_iret (pc := 35) rfl (kx_dd d_Tc_wave 18 rfl) (Nat.le_refl _) (Nat.le_refl _) ?_
  exact ⟨rfl, hS9, hf9⟩
theorem y_ws_loop {l : Launch} {g : kx_G} {d : Nat} {h : kx_Mem} (hm : SM h) (nw : Nat) (T : Nat → Nat) (hwt : WTok nw T) (D : DK) (ho : DKok D) (hp : DKm D nw T h) (Q : Option Value → kx_Mem → Prop) (kont : ∀ w3 w4 w5 w6 w7, kx_X (l, g, m_Mo_wave, d, 0, 0, Q) 0 0 58 [some (.ref 84), some (.long (lN (askD D))), none, w3, w4, w5, w6, w7] [] h) : ∀ f k, k + f = D.2.2.1.1 → ∀ w4 w5 w6 w7, kx_X (l, g, m_Mo_wave, d, 0, 0, Q) 0 0 4 [some (.ref 84), some (.long (lN (sumA D.2.2.1 k + sumP2 D.2.2.1 k))), none, some (.int (nI k)), w4, w5, w6, w7] [] h := by
  intro f
  induction f with
  | zero =>
    intro k hk w4 w5 w6 w7
    have e : k = D.2.2.1.1 := by omega
    subst e
    have e51 : h.1 84 51 = nI D.2.2.1.1 := hp.2.2.1.1
    refine kx_iload_n (pc := 4) (kx_dd d_Mo_wave 4 rfl) rfl rfl ?_
    refine kx_aload_n (pc := 5) (kx_dd d_Mo_wave 5 rfl) rfl rfl ?_
    refine kx_getI (pc := 6) fl_Mo_510 (hm.k 0 rfl) rfl (kx_dd d_Mo_wave 6 rfl) ?_
    refine kx_icmp_ge (pc := 9) (tgt := 58) (kx_dd d_Mo_wave 7 rfl) rfl (fun c9 => ?_) (fun c9 => ?_)
    · exact kont _ _ _ _ _
    · exact absurd (by rw [e51]; exact Int32.le_refl _) c9
  | succ f ih =>
    intro k hk w4 w5 w6 w7
    have o1 := ho.2.2.1.1
    have e51 : h.1 84 51 = nI D.2.2.1.1 := hp.2.2.1.1
    have hc : k < D.2.2.1.1 := by omega
    have e4 : h.1 126 k = nI (cN D.2.2.1 k 4) := ((hp.2.2.1.2 k hc).1 4 (by decide) (by decide) (by decide)).trans ((ho.2.2.1.2 k hc).1 4 (by decide) (by decide) (by decide) (by decide))
    have e8 : h.1 130 k = nI (cN D.2.2.1 k 8) := ((hp.2.2.1.2 k hc).1 8 (by decide) (by decide) (by decide)).trans ((ho.2.2.1.2 k hc).1 8 (by decide) (by decide) (by decide) (by decide))
    have e10 : h.1 132 k = nI (cN D.2.2.1 k 10) := ((hp.2.2.1.2 k hc).1 10 (by decide) (by decide) (by decide)).trans ((ho.2.2.1.2 k hc).1 10 (by decide) (by decide) (by decide) (by decide))
    obtain ⟨-, -, -, -, -, q4, -, -, -, q8, -, q10, -⟩ := ho.2.2.1.2 k hc
    refine kx_iload_n (pc := 4) (kx_dd d_Mo_wave 4 rfl) rfl rfl ?_
    refine kx_aload_n (pc := 5) (kx_dd d_Mo_wave 5 rfl) rfl rfl ?_
    refine kx_getI (pc := 6) fl_Mo_510 (hm.k 0 rfl) rfl (kx_dd d_Mo_wave 6 rfl) ?_
    refine kx_icmp_ge (pc := 9) (tgt := 58) (kx_dd d_Mo_wave 7 rfl) rfl (fun c9 => ?_) (fun c9 => ?_)
    · exact absurd c9 (by rw [e51]; exact nI_ge (by omega) (by omega))
    · refine kx_lload_n (pc := 12) (kx_dd d_Mo_wave 8 rfl) rfl rfl ?_
      refine kx_aload_n (pc := 13) (kx_dd d_Mo_wave 9 rfl) rfl rfl ?_
      refine kx_getR (pc := 14) (b := 132) fl_Mo_354 (hm.k 0 rfl) rfl (hm.r 47 rfl) (kx_dd d_Mo_wave 10 rfl) ?_
      refine kx_iload_n (pc := 17) (kx_dd d_Mo_wave 11 rfl) rfl rfl ?_
      refine kx_ialdn (pc := 18) k (hm.t 48 rfl) rfl (by omega) (by decide) (kx_dd d_Mo_wave 12 rfl) ?_
      refine kx_aload_n (pc := 19) (kx_dd d_Mo_wave 13 rfl) rfl rfl ?_
      refine kx_getR (pc := 20) (b := 130) fl_Mo_348 (hm.k 0 rfl) rfl (hm.r 45 rfl) (kx_dd d_Mo_wave 14 rfl) ?_
      refine kx_iload_n (pc := 23) (kx_dd d_Mo_wave 15 rfl) rfl rfl ?_
      refine kx_ialdn (pc := 24) k (hm.t 46 rfl) rfl (by omega) (by decide) (kx_dd d_Mo_wave 16 rfl) ?_
      refine kx_if_eq (pc := 25) (tgt := 38) (kx_dd d_Mo_wave 17 rfl) rfl (fun c25 => ?_) (fun c25 => ?_)
      · refine kx_aload_n (pc := 38) (kx_dd d_Mo_wave 24 rfl) rfl rfl ?_
        refine kx_getR (pc := 39) (b := 126) fl_Mo_336 (hm.k 0 rfl) rfl (hm.r 41 rfl) (kx_dd d_Mo_wave 25 rfl) ?_
        refine kx_iload_n (pc := 42) (kx_dd d_Mo_wave 26 rfl) rfl rfl ?_
        refine kx_ialdn (pc := 43) k (hm.t 42 rfl) rfl (by omega) (by decide) (kx_dd d_Mo_wave 27 rfl) ?_
        refine kx_goto (pc := 44) (tgt := 48) (kx_dd d_Mo_wave 28 rfl) rfl ?_
        refine kx_iadd (pc := 48) (kx_dd d_Mo_wave 30 rfl) ?_
        refine kx_i2l (pc := 49) (kx_dd d_Mo_wave 31 rfl) ?_
        refine kx_ladd (pc := 50) (kx_dd d_Mo_wave 32 rfl) ?_
        refine kx_lstore_ne (pc := 51) (lv' := [_, _, _, _, _, _, _, _]) (kx_dd d_Mo_wave 33 rfl) rfl (Nat.le_of_ble_eq_true rfl) rfl ?_
        refine kx_iinc_e (pc := 52) (v := nI (k + 1)) (lv' := [_, _, _, _, _, _, _, _]) (kx_dd d_Mo_wave 34 rfl) rfl (Nat.le_of_ble_eq_true rfl) (nI_1 k) rfl ?_
        refine kx_goto (pc := 55) (tgt := 4) (kx_dd d_Mo_wave 35 rfl) rfl ?_
        rw [e8, nI_z (by omega)] at c25
        have ep : sumP2 D.2.2.1 (k + 1) = sumP2 D.2.2.1 k + cN D.2.2.1 k 4 := if_pos (Or.inl c25)
        have ea : sumA D.2.2.1 (k + 1) = sumA D.2.2.1 k + cN D.2.2.1 k 10 := rfl
        have ih1 := ih (k + 1) (by omega)
        rw [ea, ep, show sumA D.2.2.1 k + cN D.2.2.1 k 10 + (sumP2 D.2.2.1 k + cN D.2.2.1 k 4) = sumA D.2.2.1 k + sumP2 D.2.2.1 k + (cN D.2.2.1 k 10 + cN D.2.2.1 k 4) by omega] at ih1
        rw [e10, e4, nI_add, nI_l (by omega), lN_add]
        exact ih1 _ _ _ _
      · refine kx_aload_n (pc := 28) (kx_dd d_Mo_wave 18 rfl) rfl rfl ?_
        refine kx_getR (pc := 29) (b := 130) fl_Mo_348 (hm.k 0 rfl) rfl (hm.r 45 rfl) (kx_dd d_Mo_wave 19 rfl) ?_
        refine kx_iload_n (pc := 32) (kx_dd d_Mo_wave 20 rfl) rfl rfl ?_
        refine kx_ialdn (pc := 33) k (hm.t 46 rfl) rfl (by omega) (by decide) (kx_dd d_Mo_wave 21 rfl) ?_
        refine kx_iconst (pc := 34) (v := 1) (kx_dd d_Mo_wave 22 rfl) rfl ?_
        refine kx_icmp_ne (pc := 35) (tgt := 47) (kx_dd d_Mo_wave 23 rfl) rfl (fun c35 => ?_) (fun c35 => ?_)
        · refine kx_iconst (pc := 47) (v := 0) (kx_dd d_Mo_wave 29 rfl) rfl ?_
          refine kx_iadd (pc := 48) (kx_dd d_Mo_wave 30 rfl) ?_
          refine kx_i2l (pc := 49) (kx_dd d_Mo_wave 31 rfl) ?_
          refine kx_ladd (pc := 50) (kx_dd d_Mo_wave 32 rfl) ?_
          refine kx_lstore_ne (pc := 51) (lv' := [_, _, _, _, _, _, _, _]) (kx_dd d_Mo_wave 33 rfl) rfl (Nat.le_of_ble_eq_true rfl) rfl ?_
          refine kx_iinc_e (pc := 52) (v := nI (k + 1)) (lv' := [_, _, _, _, _, _, _, _]) (kx_dd d_Mo_wave 34 rfl) rfl (Nat.le_of_ble_eq_true rfl) (nI_1 k) rfl ?_
          refine kx_goto (pc := 55) (tgt := 4) (kx_dd d_Mo_wave 35 rfl) rfl ?_
          rw [e8, nI_z (by omega)] at c25
          rw [e8, show (1 : Int32) = nI 1 from rfl, nI_eq (by omega) (by decide)] at c35
          have ep : sumP2 D.2.2.1 (k + 1) = sumP2 D.2.2.1 k := if_neg (fun z => z.elim c25 c35)
          have ea : sumA D.2.2.1 (k + 1) = sumA D.2.2.1 k + cN D.2.2.1 k 10 := rfl
          have ih1 := ih (k + 1) (by omega)
          rw [ea, ep, show sumA D.2.2.1 k + cN D.2.2.1 k 10 + sumP2 D.2.2.1 k = sumA D.2.2.1 k + sumP2 D.2.2.1 k + cN D.2.2.1 k 10 by omega] at ih1
          rw [e10, Int32.add_zero, nI_l (by omega), lN_add]
          exact ih1 _ _ _ _
        · refine kx_aload_n (pc := 38) (kx_dd d_Mo_wave 24 rfl) rfl rfl ?_
          refine kx_getR (pc := 39) (b := 126) fl_Mo_336 (hm.k 0 rfl) rfl (hm.r 41 rfl) (kx_dd d_Mo_wave 25 rfl) ?_
          refine kx_iload_n (pc := 42) (kx_dd d_Mo_wave 26 rfl) rfl rfl ?_
          refine kx_ialdn (pc := 43) k (hm.t 42 rfl) rfl (by omega) (by decide) (kx_dd d_Mo_wave 27 rfl) ?_
          refine kx_goto (pc := 44) (tgt := 48) (kx_dd d_Mo_wave 28 rfl) rfl ?_
          refine kx_iadd (pc := 48) (kx_dd d_Mo_wave 30 rfl) ?_
          refine kx_i2l (pc := 49) (kx_dd d_Mo_wave 31 rfl) ?_
          refine kx_ladd (pc := 50) (kx_dd d_Mo_wave 32 rfl) ?_
          refine kx_lstore_ne (pc := 51) (lv' := [_, _, _, _, _, _, _, _]) (kx_dd d_Mo_wave 33 rfl) rfl (Nat.le_of_ble_eq_true rfl) rfl ?_
          refine kx_iinc_e (pc := 52) (v := nI (k + 1)) (lv' := [_, _, _, _, _, _, _, _]) (kx_dd d_Mo_wave 34 rfl) rfl (Nat.le_of_ble_eq_true rfl) (nI_1 k) rfl ?_
          refine kx_goto (pc := 55) (tgt := 4) (kx_dd d_Mo_wave 35 rfl) rfl ?_
          rw [e8, show (1 : Int32) = nI 1 from rfl, nI_eq (by omega) (by decide)] at c35
          have ep : sumP2 D.2.2.1 (k + 1) = sumP2 D.2.2.1 k + cN D.2.2.1 k 4 := if_pos (Or.inr c35)
          have ea : sumA D.2.2.1 (k + 1) = sumA D.2.2.1 k + cN D.2.2.1 k 10 := rfl
          have ih1 := ih (k + 1) (by omega)
          rw [ea, ep, show sumA D.2.2.1 k + cN D.2.2.1 k 10 + (sumP2 D.2.2.1 k + cN D.2.2.1 k 4) = sumA D.2.2.1 k + sumP2 D.2.2.1 k + (cN D.2.2.1 k 10 + cN D.2.2.1 k 4) by omega] at ih1
          rw [e10, e4, nI_add, nI_l (by omega), lN_add]
          exact ih1 _ _ _ _
theorem y_wv_loop {l : Launch} {g : kx_G} {d : Nat} (h0 : kx_Mem) (hm0 : SM h0) (S : FS3) (nw : Nat) (T : Nat → Nat) (ho : DKok S.1) (M : Nat) (hI : FnI S M) (td : Nat) (htd : td < 2 ^ 31) (hck0 : h0.1 84 36 = nI td) (th : Nat) (hth : th ≤ 1000) (x1 : Int64) : ∀ f k, k + f = S.1.2.2.1.1 → ∀ h w7, kx_Fc (FpM S.1.2.2.1.1) h0 h → FSm3 (wavK td th S k).2 nw T h → kx_X (l, g, m_Mo_wave, d + 7, 0, 0, (fun v h' => v = some (.int (nI (wavK td th S S.1.2.2.1.1).1)) ∧ FSm3 (wavK td th S S.1.2.2.1.1).2 nw T h' ∧ kx_Fc (FpM S.1.2.2.1.1) h0 h')) 0 0 102 [some (.ref 84), some (.long x1), none, some (.long (lN th)), none, some (.int (nI (wavK td th S k).1)), some (.int (nI k)), w7] [] h := by
  intro f
  induction f with
  | zero =>
    intro k hk h w7 hf hS
    have e : k = S.1.2.2.1.1 := by omega
    subst e
    have hm : SM h := hm0.fc hf
    obtain ⟨-, -, ⟨n1, -, -⟩, -⟩ := wavK_ok (td := td) (th := th) ho hI S.1.2.2.1.1 (Nat.le_refl _)
    have e51 : h.1 84 51 = nI S.1.2.2.1.1 := by rw [← n1]; exact hS.1.2.2.1.1
    refine kx_iload (pc := 102) (kx_dd d_Mo_wave 63 rfl) rfl ?_
    refine kx_aload_n (pc := 104) (kx_dd d_Mo_wave 64 rfl) rfl rfl ?_
    refine kx_getI (pc := 105) fl_Mo_510 (hm.k 0 rfl) rfl (kx_dd d_Mo_wave 65 rfl) ?_
    refine kx_icmp_ge (pc := 108) (tgt := 174) (kx_dd d_Mo_wave 66 rfl) rfl (fun c108 => ?_) (fun c108 => ?_)
    · refine kx_iload (pc := 174) (kx_dd d_Mo_wave 101 rfl) rfl ?_
      refine kx_iret (pc := 176) rfl (kx_dd d_Mo_wave 102 rfl) (Nat.le_refl _) (Nat.le_refl _) ?_
      exact ⟨rfl, hS, hf⟩
    · exact absurd (by rw [e51]; exact Int32.le_refl _) c108
  | succ f ih =>
    intro k hk h w7 hf hS
    have hm : SM h := hm0.fc hf
    obtain ⟨ho1, hI1, ⟨n1, -, -⟩, f1⟩ := wavK_ok (td := td) (th := th) ho hI k (by omega)
    obtain ⟨S1, hS1⟩ : ∃ S1, (wavK td th S k).2 = S1 := ⟨_, rfl⟩
    rw [hS1] at ho1 hI1 n1 f1 hS
    have hk : k < S1.1.2.2.1.1 := by omega
    have o1 := ho.2.2.1.1
    obtain ⟨-, -, -, -, -, -, -, -, -, -, -, q10, -⟩ := ho1.2.2.1.2 k hk
    have hI2 := hI1.2.2 k hk
    have hM9 := hI1.1
    have ml := mul_le_th q10 hth
    have e10n : cN S1.1.2.2.1 k 10 * th < 2 ^ 62 := by omega
    obtain ⟨pi1, pi2⟩ := payI (a := cN S1.1.2.2.1 k 10 * th / 1000) (q := cN S1.1.2.2.1 k 11) (K := S1.2.1) (by omega) (by omega) (by have := hI1.2.1; omega)
    have hp := hS.1
    have e51 : h.1 84 51 = nI S.1.2.2.1.1 := by rw [← n1]; exact hp.2.2.1.1
    have hck : h.1 84 36 = nI td := by rw [hf.2 84 36 (by unfold FpM; omega)]; exact hck0
    have e10 : h.1 132 k = nI (cN S1.1.2.2.1 k 10) := ((hp.2.2.1.2 k hk).1 10 (by decide) (by decide) (by decide)).trans ((ho1.2.2.1.2 k hk).1 10 (by decide) (by decide) (by decide) (by decide))
    have e11 : h.1 133 k = nI (cN S1.1.2.2.1 k 11) := ((hp.2.2.1.2 k hk).1 11 (by decide) (by decide) (by decide)).trans hI2.1
    have ekn : S1.2.1 < 2 ^ 31 := by have := hI1.2.1; omega
    refine kx_iload (pc := 102) (kx_dd d_Mo_wave 63 rfl) rfl ?_
    refine kx_aload_n (pc := 104) (kx_dd d_Mo_wave 64 rfl) rfl rfl ?_
    refine kx_getI (pc := 105) fl_Mo_510 (hm.k 0 rfl) rfl (kx_dd d_Mo_wave 65 rfl) ?_
    refine kx_icmp_ge (pc := 108) (tgt := 174) (kx_dd d_Mo_wave 66 rfl) rfl (fun c108 => ?_) (fun c108 => ?_)
    · exact absurd c108 (by rw [e51]; exact nI_ge (by omega) (by omega))
    · refine kx_aload_n (pc := 111) (kx_dd d_Mo_wave 67 rfl) rfl rfl ?_
      refine kx_getI (pc := 112) fl_Mo_606 (hm.k 0 rfl) rfl (kx_dd d_Mo_wave 68 rfl) ?_
      refine kx_i2l (pc := 115) (kx_dd d_Mo_wave 69 rfl) ?_
      refine kx_aload_n (pc := 116) (kx_dd d_Mo_wave 70 rfl) rfl rfl ?_
      refine kx_getR (pc := 117) (b := 132) fl_Mo_354 (hm.k 0 rfl) rfl (hm.r 47 rfl) (kx_dd d_Mo_wave 71 rfl) ?_
      refine kx_iload (pc := 120) (kx_dd d_Mo_wave 72 rfl) rfl ?_
      refine kx_ialdn (pc := 122) k (hm.t 48 rfl) rfl (by omega) (by decide) (kx_dd d_Mo_wave 73 rfl) ?_
      refine kx_i2l (pc := 123) (kx_dd d_Mo_wave 74 rfl) ?_
      refine kx_lload_n (pc := 124) (kx_dd d_Mo_wave 75 rfl) rfl rfl ?_
      refine kx_lmul (pc := 125) (kx_dd d_Mo_wave 76 rfl) ?_
      refine kx_ldc2 (pc := 126) kl_Mo_569 (kx_dd d_Mo_wave 77 rfl) ?_
      refine kx_ldiv (pc := 129) (kx_dd d_Mo_wave 78 rfl) (by decide) ?_
      refine kx_aload_n (pc := 130) (kx_dd d_Mo_wave 79 rfl) rfl rfl ?_
      refine kx_getR (pc := 131) (b := 133) fl_Mo_357 (hm.k 0 rfl) rfl (hm.r 48 rfl) (kx_dd d_Mo_wave 80 rfl) ?_
      refine kx_iload (pc := 134) (kx_dd d_Mo_wave 81 rfl) rfl ?_
      refine kx_ialdn (pc := 136) k (hm.t 49 rfl) rfl (by omega) (by decide) (kx_dd d_Mo_wave 82 rfl) ?_
      refine kx_i2l (pc := 137) (kx_dd d_Mo_wave 83 rfl) ?_
      refine kx_lsub (pc := 138) (kx_dd d_Mo_wave 84 rfl) ?_
      rw [hS.2.1, e10, e11, nI_l (by omega), nI_l (by omega), nI_l (by omega), lN_mul, show (1000 : Int64) = lN 1000 from rfl, pk_lDiv (by omega) (by decide) (by decide)]
      refine kx_mminL (pc := 139) mk_Mo_517 (kx_dd d_Mo_wave 85 rfl) (Nat.le_of_ble_eq_true rfl) (Nat.le_of_ble_eq_true rfl) (Nat.le_refl _) (Nat.le_refl _) ?_
      rw [minL_c]
      refine kx_l2i (pc := 142) (kx_dd d_Mo_wave 86 rfl) ?_
      refine kx_istore_e (pc := 143) (lv' := [_, _, _, _, _, _, _, _]) (kx_dd d_Mo_wave 87 rfl) (Nat.le_of_ble_eq_true rfl) rfl ?_
      refine kx_iload (pc := 145) (kx_dd d_Mo_wave 88 rfl) rfl ?_
      refine kx_if_gt (pc := 147) (tgt := 153) (kx_dd d_Mo_wave 89 rfl) rfl (fun c147 => ?_) (fun c147 => ?_)
      · have h0m := pi1.mp c147
        rw [pi2 h0m]
        refine kx_iload (pc := 153) (kx_dd d_Mo_wave 91 rfl) rfl ?_
        refine kx_iload (pc := 155) (kx_dd d_Mo_wave 92 rfl) rfl ?_
        refine kx_iadd (pc := 157) (kx_dd d_Mo_wave 93 rfl) ?_
        rw [nI_add]
        refine kx_istore_e (pc := 158) (lv' := [_, _, _, _, _, _, _, _]) (kx_dd d_Mo_wave 94 rfl) (Nat.le_of_ble_eq_true rfl) rfl ?_
        refine kx_aload_n (pc := 160) (kx_dd d_Mo_wave 95 rfl) rfl rfl ?_
        refine kx_iload (pc := 161) (kx_dd d_Mo_wave 96 rfl) rfl ?_
        refine kx_iload (pc := 163) (kx_dd d_Mo_wave 97 rfl) rfl ?_
        refine kx_invV (pc := 165) (a := 84) (as := [_, _]) (kx_dd d_Mo_wave 98 rfl) ⟨lk_Mo_616, wi_Mo_pay, we_Mo_pay⟩ w_Mo_pay (hm.k 0 rfl) rfl rfl rfl rfl (Nat.le_of_ble_eq_true rfl) (y_pay (d := d) hm S1 nw T ho1 hS td htd hck k hk (wvM S1 th k) minN_l (by have := hI1.2.1; omega)) (Nat.le_refl _) ⟨Nat.le_refl _, Nat.le_refl _⟩ (fun v h' hq => ?_)
        revert h'
        intro h1 hq
        obtain ⟨rfl, hS9, hf9⟩ := hq
        rw [n1] at hf9
        refine kx_iinc_e (pc := 168) (v := nI (k + 1)) (lv' := [_, _, _, _, _, _, _, _]) (kx_dd d_Mo_wave 99 rfl) rfl (Nat.le_of_ble_eq_true rfl) (nI_1 k) rfl ?_
        refine kx_goto (pc := 171) (tgt := 102) (kx_dd d_Mo_wave 100 rfl) rfl ?_
        have e : wavK td th S (k + 1) = ((wavK td th S k).1 + wvM S1 th k, payM td S1 k (wvM S1 th k)) := by rw [← hS1]; rfl
        rw [show payM td S1 k (wvM S1 th k) = payF td S1 k (wvM S1 th k) from if_pos h0m] at e
        have ih1 := ih (k + 1) (by omega)
        rw [e] at ih1
        exact ih1 h1 _ (hf.tr hf9) hS9
      · refine kx_goto (pc := 150) (tgt := 168) (kx_dd d_Mo_wave 90 rfl) rfl ?_
        refine kx_iinc_e (pc := 168) (v := nI (k + 1)) (lv' := [_, _, _, _, _, _, _, _]) (kx_dd d_Mo_wave 99 rfl) rfl (Nat.le_of_ble_eq_true rfl) (nI_1 k) rfl ?_
        refine kx_goto (pc := 171) (tgt := 102) (kx_dd d_Mo_wave 100 rfl) rfl ?_
        have en : ¬ 0 < wvM S1 th k := fun z => c147 (pi1.mpr z)
        have ez : wvM S1 th k = 0 := by omega
        have e : wavK td th S (k + 1) = ((wavK td th S k).1 + wvM S1 th k, payM td S1 k (wvM S1 th k)) := by rw [← hS1]; rfl
        rw [ez, show payM td S1 k 0 = S1 from if_neg (by decide), Nat.add_zero] at e
        have ih1 := ih (k + 1) (by omega)
        rw [e] at ih1
        exact ih1 h _ hf hS
theorem y_wave {l : Launch} {g : kx_G} {d : Nat} {h : kx_Mem} (hm : SM h) (S : FS3) (nw : Nat) (T : Nat → Nat) (hwt : WTok nw T) (ho : DKok S.1) (hS : FSm3 S nw T h) (M : Nat) (hI : FnI S M) (hcm : h.1 84 87 = nI M) (r : RU) (u : Nat) (hu : u < 4) (hse : RSet r) (hrp : RUm r u nw T h) (hif : h.1 84 31 = nI u) (td : Nat) (htd : td < 2 ^ 31) (hck : h.1 84 36 = nI td) : kx_Sp l g m_Mo_wave [.ref 84] h (d + 7) 0 0 (fun v h' => v = some (.int (nI (wavR S M (rsN r 10) td).1)) ∧ FSm3 (wavR S M (rsN r 10) td).2 nw T h' ∧ kx_Fc (FpM S.1.2.2.1.1) h h') := by
  have o1 := ho.2.2.1.1
  have sa := sumA_le ho.2.2.1 S.1.2.2.1.1 (Nat.le_refl _)
  have sp := sumP2_le ho.2.2.1 S.1.2.2.1.1 (Nat.le_refl _)
  have hM9 := hI.1
  have hask : askD S.1 = sumA S.1.2.2.1 S.1.2.2.1.1 + sumP2 S.1.2.2.1 S.1.2.2.1.1 := rfl
  have hp := hS.1
  have r10 := hse.2.2.2.2.2.2.2.1
  refine kx_enter_e (lv := [_, _, _, _, _, _, _, _]) (by decide +kernel) (Nat.le_of_ble_eq_true rfl) rfl ?_
  refine kx_lconst (pc := 0) (v := 0) (kx_dd d_Mo_wave 0 rfl) rfl ?_
  refine kx_lstore_ne (pc := 1) (lv' := [_, _, _, _, _, _, _, _]) (kx_dd d_Mo_wave 1 rfl) rfl (Nat.le_of_ble_eq_true rfl) rfl ?_
  refine kx_iconst (pc := 2) (v := 0) (kx_dd d_Mo_wave 2 rfl) rfl ?_
  refine kx_istore_ne (pc := 3) (lv' := [_, _, _, _, _, _, _, _]) (kx_dd d_Mo_wave 3 rfl) rfl (Nat.le_of_ble_eq_true rfl) rfl ?_
  refine y_ws_loop (d := d + 7) hm nw T hwt S.1 ho hp _ (fun w3 w4 w5 w6 w7 => ?_) S.1.2.2.1.1 0 (by omega) _ _ _ _
  refine kx_ldc2 (pc := 58) kl_Mo_254 (kx_dd d_Mo_wave 36 rfl) ?_
  refine kx_aload_n (pc := 61) (kx_dd d_Mo_wave 37 rfl) rfl rfl ?_
  refine kx_aload_n (pc := 62) (kx_dd d_Mo_wave 38 rfl) rfl rfl ?_
  refine kx_getI (pc := 63) fl_Mo_251 (hm.k 0 rfl) rfl (kx_dd d_Mo_wave 39 rfl) ?_
  refine kx_bipush (pc := 66) (v := 10) (kx_dd d_Mo_wave 40 rfl) rfl ?_
  rw [hif]
  refine kx_invV (pc := 68) (a := 84) (as := [_, _]) (kx_dd d_Mo_wave 41 rfl) ⟨lk_Mo_162, wi_Mo_ruleOf, we_Mo_ruleOf⟩ w_Mo_ruleOf (hm.k 0 rfl) rfl rfl rfl rfl (Nat.le_of_ble_eq_true rfl) (y_ruleOf (d := d + 6) hm u 10 (by omega) (by decide)) (Nat.le_refl _) ⟨Nat.le_refl _, Nat.le_refl _⟩ (fun v h' hq => ?_)
  obtain ⟨rfl, he⟩ := hq
  rw [he]
  clear he
  rw [hrp.1 10 (by decide), hse.1 10 (by decide) (by decide)]
  refine kx_i2l (pc := 71) (kx_dd d_Mo_wave 42 rfl) ?_
  rw [nI_l (by omega), show (10 : Int64) = lN 10 from rfl]
  refine kx_lmul (pc := 72) (kx_dd d_Mo_wave 43 rfl) ?_
  rw [lN_mul]
  refine kx_lstore_ne (pc := 73) (lv' := [_, _, _, _, _, _, _, _]) (kx_dd d_Mo_wave 44 rfl) rfl (Nat.le_of_ble_eq_true rfl) rfl ?_
  refine kx_lload_n (pc := 74) (kx_dd d_Mo_wave 45 rfl) rfl rfl ?_
  refine kx_lconst (pc := 75) (v := 0) (kx_dd d_Mo_wave 46 rfl) rfl ?_
  refine kx_lcmp (pc := 76) (kx_dd d_Mo_wave 47 rfl) ?_
  refine kx_if_le (pc := 77) (tgt := 96) (kx_dd d_Mo_wave 48 rfl) rfl (fun c77 => ?_) (fun c77 => ?_)
  · refine kx_iconst (pc := 96) (v := 0) (kx_dd d_Mo_wave 59 rfl) rfl ?_
    refine kx_istore_e (pc := 97) (lv' := [_, _, _, _, _, _, _, _]) (kx_dd d_Mo_wave 60 rfl) (Nat.le_of_ble_eq_true rfl) rfl ?_
    refine kx_iconst (pc := 99) (v := 0) (kx_dd d_Mo_wave 61 rfl) rfl ?_
    refine kx_istore_e (pc := 100) (lv' := [_, _, _, _, _, _, _, _]) (kx_dd d_Mo_wave 62 rfl) (Nat.le_of_ble_eq_true rfl) rfl ?_
    rw [lg_cmp_le, show (0 : Int64) = lN 0 from rfl, pk_lLE (by omega) (by decide)] at c77
    have ez : askD S.1 = 0 := by omega
    have e : wavR S M (rsN r 10) td = wavK td (10 * rsN r 10) S S.1.2.2.1.1 := by rw [wavK_0 (sumA_z _ (by omega)) _ (Nat.le_refl _)]; exact if_pos ez
    rw [e]
    exact y_wv_loop h hm S nw T ho M hI td htd hck (10 * rsN r 10) (by omega) _ S.1.2.2.1.1 0 (by omega) h _ kx_Fc.rf hS
  · rw [lg_cmp_le, show (0 : Int64) = lN 0 from rfl, pk_lLE (by omega) (by decide)] at c77
    refine kx_lload_n (pc := 80) (kx_dd d_Mo_wave 49 rfl) rfl rfl ?_
    refine kx_ldc2 (pc := 81) kl_Mo_569 (kx_dd d_Mo_wave 50 rfl) ?_
    refine kx_aload_n (pc := 84) (kx_dd d_Mo_wave 51 rfl) rfl rfl ?_
    refine kx_getI (pc := 85) fl_Mo_602 (hm.k 0 rfl) rfl (kx_dd d_Mo_wave 52 rfl) ?_
    refine kx_i2l (pc := 88) (kx_dd d_Mo_wave 53 rfl) ?_
    refine kx_lmul (pc := 89) (kx_dd d_Mo_wave 54 rfl) ?_
    rw [hcm, nI_l (by omega), show (1000 : Int64) = lN 1000 from rfl, lN_mul]
    refine kx_lload_n (pc := 90) (kx_dd d_Mo_wave 55 rfl) rfl rfl ?_
    refine kx_ldiv (pc := 91) (kx_dd d_Mo_wave 56 rfl) (by intro z; have := (pk_lEQ (b := 0) (by omega) (by decide)).mp z; omega) ?_
    rw [pk_lDiv (by omega) (by omega) (by omega)]
    have hdv : 1000 * M / askD S.1 ≤ 1000 * M := Nat.div_le_self _ _
    refine kx_mminL (pc := 92) mk_Mo_517 (kx_dd d_Mo_wave 57 rfl) (Nat.le_of_ble_eq_true rfl) (Nat.le_of_ble_eq_true rfl) (Nat.le_refl _) (Nat.le_refl _) ?_
    rw [minLN (by omega) (by omega)]
    refine kx_lstore_ne (pc := 95) (lv' := [_, _, _, _, _, _, _, _]) (kx_dd d_Mo_wave 58 rfl) rfl (Nat.le_of_ble_eq_true rfl) rfl ?_
    refine kx_iconst (pc := 96) (v := 0) (kx_dd d_Mo_wave 59 rfl) rfl ?_
    refine kx_istore_e (pc := 97) (lv' := [_, _, _, _, _, _, _, _]) (kx_dd d_Mo_wave 60 rfl) (Nat.le_of_ble_eq_true rfl) rfl ?_
    refine kx_iconst (pc := 99) (v := 0) (kx_dd d_Mo_wave 61 rfl) rfl ?_
    refine kx_istore_e (pc := 100) (lv' := [_, _, _, _, _, _, _, _]) (kx_dd d_Mo_wave 62 rfl) (Nat.le_of_ble_eq_true rfl) rfl ?_
    have hth : (minN (1000 * M / askD S.1) (10 * rsN r 10)) ≤ 1000 := Nat.le_trans minN_r (by omega)
    have e : wavR S M (rsN r 10) td = wavK td (minN (1000 * M / askD S.1) (10 * rsN r 10)) S S.1.2.2.1.1 := if_neg (by omega)
    rw [e]
    exact y_wv_loop h hm S nw T ho M hI td htd hck (minN (1000 * M / askD S.1) (10 * rsN r 10)) hth _ S.1.2.2.1.1 0 (by omega) h _ kx_Fc.rf hS
