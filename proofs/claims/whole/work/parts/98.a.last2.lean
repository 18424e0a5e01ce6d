/-! the fund: last: the class -/
theorem payE {K m : Nat} (h : m ≤ K) (hK : K < 2 ^ 30) : (if (nI K).toInt64 < lN m then (nI K).toInt64 else lN m).toInt32 = nI m := by
  rw [nI_l (by omega), if_neg (fun z => by have := (pk_lLT (a := K) (b := m) (by omega) (by omega)).mp z; omega), lN_i]
theorem nI_p {m : Nat} (h : m < 2 ^ 31) : 0 < nI m ↔ 0 < m := by rw [show (0 : Int32) = nI 0 from rfl, nI_ltI (by decide) h]
theorem nI_le0 {m : Nat} (h : m < 2 ^ 31) : nI m ≤ 0 ↔ m = 0 := by rw [show (0 : Int32) = nI 0 from rfl, nI_leI h (by decide)]; omega
theorem lasR_n {S : FS3} {td : Nat} (h : ¬ penD S.1) : lasR S td = (nI (lasK td (getF S (sumN (wtF S) S.1.2.2.1.1)) S S.1.2.2.1.1).1, (lasK td (getF S (sumN (wtF S) S.1.2.2.1.1)) S S.1.2.2.1.1).2) := if_neg h
theorem lasR_y {S : FS3} {td : Nat} (h : penD S.1) : lasR S td = (-4, S) := if_pos h
def FlP (a j : Nat) : Prop := FpC a j
theorem x_la_e {l : Launch} {g : kx_G} {d : Nat} (h0 : kx_Mem) (hs0 : SC h0) (S : FS3) (A : DA) (ho : DKok S.1) (M : Nat) (hI : FnI S M) (td : Nat) (htd : td < 2 ^ 31) (G : Nat → Nat) (hG : sumN G S.1.2.2.1.1 ≤ S.2.1) (hGe : ∀ k, G k = wtF S k) (x2 : Int64) : ∀ f k, k + f = S.1.2.2.1.1 → ∀ h w7, kx_Fc FpC h0 h → FSc3 (lasK td G S k).2 A h → kx_X (l, g, m_Fu_payLast, d + 8, 0, 0, (fun v h' => v = some (.int (nI (lasK td G S S.1.2.2.1.1).1)) ∧ FSc3 (lasK td G S S.1.2.2.1.1).2 A h' ∧ kx_Fc FpC h0 h')) 0 0 85 [some (.ref 45), some (.int (nI td)), some (.long x2), none, some (.int 1), some (.int (nI (lasK td G S k).1)), some (.int (nI k)), w7] [] h := by
  intro f
  induction f with
  | zero =>
    intro k hk h w7 hf hS
    have e : k = S.1.2.2.1.1 := by omega
    subst e
    have hs : SC h := hs0.fc hf
    obtain ⟨-, -, ⟨n1, -, -⟩, -⟩ := lasK_ok (td := td) ho hI hG S.1.2.2.1.1 (Nat.le_refl _)
    have hp := hS.1
    refine kx_iload (pc := 85) (kx_dd d_Fu_payLast 45 rfl) rfl ?_
    refine kx_aload_n (pc := 87) (kx_dd d_Fu_payLast 46 rfl) rfl rfl ?_
    refine kx_getR (pc := 88) (b := 39) fl_Fu_24 (hs.k 45 rfl) rfl (hs.r 48 rfl) (kx_dd d_Fu_payLast 47 rfl) ?_
    refine kx_getR (pc := 91) (b := 40) fl_Fu_52 (hs.k 39 rfl) rfl (hs.r 43 rfl) (kx_dd d_Fu_payLast 48 rfl) ?_
    refine kx_invV (pc := 94) (a := 40) (as := []) (kx_dd d_Fu_payLast 49 rfl) ⟨lk_Fu_56, wi_AL_size, we_AL_size⟩ w_AL_size (hs.k 40 rfl) rfl rfl rfl rfl (Nat.le_of_ble_eq_true rfl) (x_AL_size (d := d + 7) 40 (lasK td G S S.1.2.2.1.1).2.1.2.2.1.1 A.2.2.1 A.2.2.2.1 A.1 (DKc.k40 hs).1 hp.2.2.1) (Nat.le_refl _) ⟨Nat.le_refl _, Nat.le_refl _⟩ (fun v h' hq => ?_)
    obtain ⟨rfl, he⟩ := hq
    rw [he]
    clear he
    refine kx_icmp_ge (pc := 97) (tgt := 162) (kx_dd d_Fu_payLast 50 rfl) rfl (fun c97 => ?_) (fun c97 => ?_)
    · refine kx_iload (pc := 162) (kx_dd d_Fu_payLast 79 rfl) rfl ?_
      refine kx_iret (pc := 164) rfl (kx_dd d_Fu_payLast 80 rfl) (Nat.le_refl _) (Nat.le_refl _) ?_
      exact ⟨rfl, hS, hf⟩
    · exact absurd (by rw [n1]; exact Int32.le_refl _) c97
  | succ f ih =>
    intro k hk9 h w7 hf hS
    have hs : SC h := hs0.fc hf
    obtain ⟨ho1, hI1, ⟨n1, -, -⟩, f1, f11, fK⟩ := lasK_ok (td := td) ho hI hG k (by omega)
    obtain ⟨S1, hS1⟩ : ∃ S1, (lasK td G S k).2 = S1 := ⟨_, rfl⟩
    rw [hS1] at ho1 hI1 n1 f1 f11 fK hS
    have hk : k < S1.1.2.2.1.1 := by omega
    have o1 := ho.2.2.1.1
    have hp := hS.1
    have hI2 := hI1.2.2 k hk
    have hM9 := hI1.1
    have hKM := hI1.2.1
    have hGk := sumN_at (f := G) (show k < S.1.2.2.1.1 by omega)
    have q10 : cN S1.1.2.2.1 k 10 ≤ 6600000 := (ho1.2.2.1.2 k hk).2.2.2.2.2.2.2.2.2.2.2.1
    have e10 : h.1 (A.1 k) 10 = nI (cN S1.1.2.2.1 k 10) := ((hp.2.2.2.2.1.2 k hk).2.2.2.1 10 (by decide) (by decide)).trans ((ho1.2.2.1.2 k hk).1 10 (by decide) (by decide) (by decide) (by decide))
    have e11 : h.1 (A.1 k) 11 = nI (cN S1.1.2.2.1 k 11) := ((hp.2.2.2.2.1.2 k hk).2.2.2.1 11 (by decide) (by decide)).trans hI2.1
    have eG : cN S1.1.2.2.1 k 10 - cN S1.1.2.2.1 k 11 = G k := by rw [hGe k, f1 k 10 (by decide), f11 k (Nat.le_refl _)]; rfl
    refine kx_iload (pc := 85) (kx_dd d_Fu_payLast 45 rfl) rfl ?_
    refine kx_aload_n (pc := 87) (kx_dd d_Fu_payLast 46 rfl) rfl rfl ?_
    refine kx_getR (pc := 88) (b := 39) fl_Fu_24 (hs.k 45 rfl) rfl (hs.r 48 rfl) (kx_dd d_Fu_payLast 47 rfl) ?_
    refine kx_getR (pc := 91) (b := 40) fl_Fu_52 (hs.k 39 rfl) rfl (hs.r 43 rfl) (kx_dd d_Fu_payLast 48 rfl) ?_
    refine kx_invV (pc := 94) (a := 40) (as := []) (kx_dd d_Fu_payLast 49 rfl) ⟨lk_Fu_56, wi_AL_size, we_AL_size⟩ w_AL_size (hs.k 40 rfl) rfl rfl rfl rfl (Nat.le_of_ble_eq_true rfl) (x_AL_size (d := d + 7) 40 S1.1.2.2.1.1 A.2.2.1 A.2.2.2.1 A.1 (DKc.k40 hs).1 hp.2.2.1) (Nat.le_refl _) ⟨Nat.le_refl _, Nat.le_refl _⟩ (fun v h' hq => ?_)
    obtain ⟨rfl, he⟩ := hq
    rw [he]
    clear he
    refine kx_icmp_ge (pc := 97) (tgt := 162) (kx_dd d_Fu_payLast 50 rfl) rfl (fun c97 => ?_) (fun c97 => ?_)
    · exact absurd c97 (by rw [n1]; exact nI_ge (by omega) (by omega))
    · refine kx_iload (pc := 100) (kx_dd d_Fu_payLast 51 rfl) rfl ?_
      refine kx_bipush (pc := 102) (v := 60) (kx_dd d_Fu_payLast 52 rfl) rfl ?_
      refine kx_icmp_ge (pc := 104) (tgt := 162) (kx_dd d_Fu_payLast 53 rfl) rfl (fun c104 => ?_) (fun c104 => ?_)
      · exact absurd c104 (nI_ge (b := 60) (by omega) (by decide))
      · refine kx_aload_n (pc := 107) (kx_dd d_Fu_payLast 54 rfl) rfl rfl ?_
        refine kx_getR (pc := 108) (b := 39) fl_Fu_24 (hs.k 45 rfl) rfl (hs.r 48 rfl) (kx_dd d_Fu_payLast 55 rfl) ?_
        refine kx_getR (pc := 111) (b := 40) fl_Fu_52 (hs.k 39 rfl) rfl (hs.r 43 rfl) (kx_dd d_Fu_payLast 56 rfl) ?_
        refine kx_iload (pc := 114) (kx_dd d_Fu_payLast 57 rfl) rfl ?_
        refine kx_invV (pc := 116) (a := 40) (as := [_]) (kx_dd d_Fu_payLast 58 rfl) ⟨lk_Fu_61, wi_AL_get, we_AL_get⟩ w_AL_get (hs.k 40 rfl) rfl rfl rfl rfl (Nat.le_of_ble_eq_true rfl) (x_AL_get (d := d + 5) 40 S1.1.2.2.1.1 A.2.2.1 A.2.2.2.1 A.1 (DKc.k40 hs).1 hp.2.2.1 k hk) (Nat.le_refl _) ⟨Nat.le_refl _, Nat.le_refl _⟩ (fun v h' hq => ?_)
        obtain ⟨rfl, he⟩ := hq
        rw [he]
        clear he
        refine kx_cast (pc := 119) (ci := 1) (congrArg Prod.fst (hp.2.2.2.2.1.2 k hk).2.2.1) rfl cl_Fu_65 (kx_dd d_Fu_payLast 59 rfl) ?_
        refine kx_astore_e (pc := 122) (lv' := [_, _, _, _, _, _, _, _]) (kx_dd d_Fu_payLast 60 rfl) (Nat.le_of_ble_eq_true rfl) rfl ?_
        refine kx_iload (pc := 124) (kx_dd d_Fu_payLast 61 rfl) rfl ?_
        refine kx_aload_n (pc := 126) (kx_dd d_Fu_payLast 62 rfl) rfl rfl ?_
        refine kx_aload (pc := 127) (kx_dd d_Fu_payLast 63 rfl) rfl ?_
        refine kx_iload (pc := 129) (kx_dd d_Fu_payLast 64 rfl) rfl ?_
        refine kx_if_eq (pc := 131) (tgt := 142) (kx_dd d_Fu_payLast 65 rfl) rfl (fun c131 => absurd c131 (by decide)) (fun _ => ?_)
        refine kx_aload (pc := 134) (kx_dd d_Fu_payLast 66 rfl) rfl ?_
        refine kx_invS (pc := 136) (as := [_]) (kx_dd d_Fu_payLast 67 rfl) ⟨lk_Fu_86, wt_Fu_wantOf⟩ w_Fu_wantOf rfl rfl (Nat.le_of_ble_eq_true rfl) (x_Fu_wantOf (d := d + 6) (A.1 k) _ _ (hp.2.2.2.2.1.2 k hk).2.2.1 e10 e11 (by omega) (by omega)) (Nat.le_refl _) ⟨Nat.le_refl _, Nat.le_refl _⟩ (fun v h' hq => ?_)
        obtain ⟨rfl, he⟩ := hq
        rw [he]
        clear he
        rw [eG]
        refine kx_goto (pc := 139) (tgt := 149) (kx_dd d_Fu_payLast 68 rfl) rfl ?_
        refine kx_iload_n (pc := 149) (kx_dd d_Fu_payLast 73 rfl) rfl rfl ?_
        refine kx_invV (pc := 150) (a := 45) (as := [_, _, _]) (kx_dd d_Fu_payLast 74 rfl) ⟨lk_Fu_73, wi_Fu_pay, we_Fu_pay⟩ w_Fu_pay (hs.k 45 rfl) rfl rfl rfl rfl (Nat.le_of_ble_eq_true rfl) (x_Fu_pay (d := d) hs S1 A ho1 hS td htd k hk (lN (G k)) (nI (G k)) (G k) (payE (by omega) (by omega)) (nI_p (by omega)) (fun _ => rfl) (by omega) (by omega)) (Nat.le_refl _) ⟨Nat.le_refl _, Nat.le_refl _⟩ (fun v h' hq => ?_)
        revert h'
        intro h1 hq
        obtain ⟨rfl, hS9, hf9⟩ := hq
        refine kx_iadd (pc := 153) (kx_dd d_Fu_payLast 75 rfl) ?_
        rw [nI_add]
        refine kx_istore_e (pc := 154) (lv' := [_, _, _, _, _, _, _, _]) (kx_dd d_Fu_payLast 76 rfl) (Nat.le_of_ble_eq_true rfl) rfl ?_
        refine kx_iinc_e (pc := 156) (v := nI (k + 1)) (lv' := [_, _, _, _, _, _, _, _]) (kx_dd d_Fu_payLast 77 rfl) rfl (Nat.le_of_ble_eq_true rfl) (nI_1 k) rfl ?_
        refine kx_goto (pc := 159) (tgt := 85) (kx_dd d_Fu_payLast 78 rfl) rfl ?_
        have e : lasK td G S (k + 1) = ((lasK td G S k).1 + G k, payM td S1 k (G k)) := by rw [← hS1]; rfl
        have ih1 := ih (k + 1) (by omega)
        rw [e] at ih1
        exact ih1 h1 _ (hf.tr hf9) hS9
theorem x_la_s {l : Launch} {g : kx_G} {d : Nat} (h0 : kx_Mem) (hs0 : SC h0) (S : FS3) (A : DA) (ho : DKok S.1) (M : Nat) (hI : FnI S M) (td : Nat) (htd : td < 2 ^ 31) (G : Nat → Nat) (hG : sumN G S.1.2.2.1.1 ≤ S.2.1) (hGs : ∀ k, k < S.1.2.2.1.1 → h0.2.1 46 k = lN (G k)) (x2 : Int64) : ∀ f k, k + f = S.1.2.2.1.1 → ∀ h w7, kx_Fc FpC h0 h → FSc3 (lasK td G S k).2 A h → kx_X (l, g, m_Fu_payLast, d + 8, 0, 0, (fun v h' => v = some (.int (nI (lasK td G S S.1.2.2.1.1).1)) ∧ FSc3 (lasK td G S S.1.2.2.1.1).2 A h' ∧ kx_Fc FpC h0 h')) 0 0 85 [some (.ref 45), some (.int (nI td)), some (.long x2), none, some (.int 0), some (.int (nI (lasK td G S k).1)), some (.int (nI k)), w7] [] h := by
  intro f
  induction f with
  | zero =>
    intro k hk h w7 hf hS
    have e : k = S.1.2.2.1.1 := by omega
    subst e
    have hs : SC h := hs0.fc hf
    obtain ⟨-, -, ⟨n1, -, -⟩, -⟩ := lasK_ok (td := td) ho hI hG S.1.2.2.1.1 (Nat.le_refl _)
    have hp := hS.1
    refine kx_iload (pc := 85) (kx_dd d_Fu_payLast 45 rfl) rfl ?_
    refine kx_aload_n (pc := 87) (kx_dd d_Fu_payLast 46 rfl) rfl rfl ?_
    refine kx_getR (pc := 88) (b := 39) fl_Fu_24 (hs.k 45 rfl) rfl (hs.r 48 rfl) (kx_dd d_Fu_payLast 47 rfl) ?_
    refine kx_getR (pc := 91) (b := 40) fl_Fu_52 (hs.k 39 rfl) rfl (hs.r 43 rfl) (kx_dd d_Fu_payLast 48 rfl) ?_
    refine kx_invV (pc := 94) (a := 40) (as := []) (kx_dd d_Fu_payLast 49 rfl) ⟨lk_Fu_56, wi_AL_size, we_AL_size⟩ w_AL_size (hs.k 40 rfl) rfl rfl rfl rfl (Nat.le_of_ble_eq_true rfl) (x_AL_size (d := d + 7) 40 (lasK td G S S.1.2.2.1.1).2.1.2.2.1.1 A.2.2.1 A.2.2.2.1 A.1 (DKc.k40 hs).1 hp.2.2.1) (Nat.le_refl _) ⟨Nat.le_refl _, Nat.le_refl _⟩ (fun v h' hq => ?_)
    obtain ⟨rfl, he⟩ := hq
    rw [he]
    clear he
    refine kx_icmp_ge (pc := 97) (tgt := 162) (kx_dd d_Fu_payLast 50 rfl) rfl (fun c97 => ?_) (fun c97 => ?_)
    · refine kx_iload (pc := 162) (kx_dd d_Fu_payLast 79 rfl) rfl ?_
      refine kx_iret (pc := 164) rfl (kx_dd d_Fu_payLast 80 rfl) (Nat.le_refl _) (Nat.le_refl _) ?_
      exact ⟨rfl, hS, hf⟩
    · exact absurd (by rw [n1]; exact Int32.le_refl _) c97
  | succ f ih =>
    intro k hk9 h w7 hf hS
    have hs : SC h := hs0.fc hf
    obtain ⟨ho1, hI1, ⟨n1, -, -⟩, f1, f11, fK⟩ := lasK_ok (td := td) ho hI hG k (by omega)
    obtain ⟨S1, hS1⟩ : ∃ S1, (lasK td G S k).2 = S1 := ⟨_, rfl⟩
    rw [hS1] at ho1 hI1 n1 f1 f11 fK hS
    have hk : k < S1.1.2.2.1.1 := by omega
    have o1 := ho.2.2.1.1
    have hp := hS.1
    have hI2 := hI1.2.2 k hk
    have hM9 := hI1.1
    have hKM := hI1.2.1
    have hGk := sumN_at (f := G) (show k < S.1.2.2.1.1 by omega)
    refine kx_iload (pc := 85) (kx_dd d_Fu_payLast 45 rfl) rfl ?_
    refine kx_aload_n (pc := 87) (kx_dd d_Fu_payLast 46 rfl) rfl rfl ?_
    refine kx_getR (pc := 88) (b := 39) fl_Fu_24 (hs.k 45 rfl) rfl (hs.r 48 rfl) (kx_dd d_Fu_payLast 47 rfl) ?_
    refine kx_getR (pc := 91) (b := 40) fl_Fu_52 (hs.k 39 rfl) rfl (hs.r 43 rfl) (kx_dd d_Fu_payLast 48 rfl) ?_
    refine kx_invV (pc := 94) (a := 40) (as := []) (kx_dd d_Fu_payLast 49 rfl) ⟨lk_Fu_56, wi_AL_size, we_AL_size⟩ w_AL_size (hs.k 40 rfl) rfl rfl rfl rfl (Nat.le_of_ble_eq_true rfl) (x_AL_size (d := d + 7) 40 S1.1.2.2.1.1 A.2.2.1 A.2.2.2.1 A.1 (DKc.k40 hs).1 hp.2.2.1) (Nat.le_refl _) ⟨Nat.le_refl _, Nat.le_refl _⟩ (fun v h' hq => ?_)
    obtain ⟨rfl, he⟩ := hq
    rw [he]
    clear he
    refine kx_icmp_ge (pc := 97) (tgt := 162) (kx_dd d_Fu_payLast 50 rfl) rfl (fun c97 => ?_) (fun c97 => ?_)
    · exact absurd c97 (by rw [n1]; exact nI_ge (by omega) (by omega))
    · refine kx_iload (pc := 100) (kx_dd d_Fu_payLast 51 rfl) rfl ?_
      refine kx_bipush (pc := 102) (v := 60) (kx_dd d_Fu_payLast 52 rfl) rfl ?_
      refine kx_icmp_ge (pc := 104) (tgt := 162) (kx_dd d_Fu_payLast 53 rfl) rfl (fun c104 => ?_) (fun c104 => ?_)
      · exact absurd c104 (nI_ge (b := 60) (by omega) (by decide))
      · refine kx_aload_n (pc := 107) (kx_dd d_Fu_payLast 54 rfl) rfl rfl ?_
        refine kx_getR (pc := 108) (b := 39) fl_Fu_24 (hs.k 45 rfl) rfl (hs.r 48 rfl) (kx_dd d_Fu_payLast 55 rfl) ?_
        refine kx_getR (pc := 111) (b := 40) fl_Fu_52 (hs.k 39 rfl) rfl (hs.r 43 rfl) (kx_dd d_Fu_payLast 56 rfl) ?_
        refine kx_iload (pc := 114) (kx_dd d_Fu_payLast 57 rfl) rfl ?_
        refine kx_invV (pc := 116) (a := 40) (as := [_]) (kx_dd d_Fu_payLast 58 rfl) ⟨lk_Fu_61, wi_AL_get, we_AL_get⟩ w_AL_get (hs.k 40 rfl) rfl rfl rfl rfl (Nat.le_of_ble_eq_true rfl) (x_AL_get (d := d + 5) 40 S1.1.2.2.1.1 A.2.2.1 A.2.2.2.1 A.1 (DKc.k40 hs).1 hp.2.2.1 k hk) (Nat.le_refl _) ⟨Nat.le_refl _, Nat.le_refl _⟩ (fun v h' hq => ?_)
        obtain ⟨rfl, he⟩ := hq
        rw [he]
        clear he
        refine kx_cast (pc := 119) (ci := 1) (congrArg Prod.fst (hp.2.2.2.2.1.2 k hk).2.2.1) rfl cl_Fu_65 (kx_dd d_Fu_payLast 59 rfl) ?_
        refine kx_astore_e (pc := 122) (lv' := [_, _, _, _, _, _, _, _]) (kx_dd d_Fu_payLast 60 rfl) (Nat.le_of_ble_eq_true rfl) rfl ?_
        refine kx_iload (pc := 124) (kx_dd d_Fu_payLast 61 rfl) rfl ?_
        refine kx_aload_n (pc := 126) (kx_dd d_Fu_payLast 62 rfl) rfl rfl ?_
        refine kx_aload (pc := 127) (kx_dd d_Fu_payLast 63 rfl) rfl ?_
        refine kx_iload (pc := 129) (kx_dd d_Fu_payLast 64 rfl) rfl ?_
        refine kx_if_eq (pc := 131) (tgt := 142) (kx_dd d_Fu_payLast 65 rfl) rfl (fun _ => ?_) (fun c131 => absurd c131 (by decide))
        refine kx_aload_n (pc := 142) (kx_dd d_Fu_payLast 69 rfl) rfl rfl ?_
        refine kx_getR (pc := 143) (b := 46) fl_Fu_11 (hs.k 45 rfl) rfl (hs.r 49 rfl) (kx_dd d_Fu_payLast 70 rfl) ?_
        refine kx_iload (pc := 146) (kx_dd d_Fu_payLast 71 rfl) rfl ?_
        refine kx_laldn (pc := 148) k (hs.t 46 rfl) rfl (by omega) (by decide) (kx_dd d_Fu_payLast 72 rfl) ?_
        rw [show h.2.1 46 k = lN (G k) from by rw [hf.1]; exact hGs k (by omega)]
        refine kx_iload_n (pc := 149) (kx_dd d_Fu_payLast 73 rfl) rfl rfl ?_
        refine kx_invV (pc := 150) (a := 45) (as := [_, _, _]) (kx_dd d_Fu_payLast 74 rfl) ⟨lk_Fu_73, wi_Fu_pay, we_Fu_pay⟩ w_Fu_pay (hs.k 45 rfl) rfl rfl rfl rfl (Nat.le_of_ble_eq_true rfl) (x_Fu_pay (d := d) hs S1 A ho1 hS td htd k hk (lN (G k)) (nI (G k)) (G k) (payE (by omega) (by omega)) (nI_p (by omega)) (fun _ => rfl) (by omega) (by omega)) (Nat.le_refl _) ⟨Nat.le_refl _, Nat.le_refl _⟩ (fun v h' hq => ?_)
        revert h'
        intro h1 hq
        obtain ⟨rfl, hS9, hf9⟩ := hq
        refine kx_iadd (pc := 153) (kx_dd d_Fu_payLast 75 rfl) ?_
        rw [nI_add]
        refine kx_istore_e (pc := 154) (lv' := [_, _, _, _, _, _, _, _]) (kx_dd d_Fu_payLast 76 rfl) (Nat.le_of_ble_eq_true rfl) rfl ?_
        refine kx_iinc_e (pc := 156) (v := nI (k + 1)) (lv' := [_, _, _, _, _, _, _, _]) (kx_dd d_Fu_payLast 77 rfl) rfl (Nat.le_of_ble_eq_true rfl) (nI_1 k) rfl ?_
        refine kx_goto (pc := 159) (tgt := 85) (kx_dd d_Fu_payLast 78 rfl) rfl ?_
        have e : lasK td G S (k + 1) = ((lasK td G S k).1 + G k, payM td S1 k (G k)) := by rw [← hS1]; rfl
        have ih1 := ih (k + 1) (by omega)
        rw [e] at ih1
        exact ih1 h1 _ (hf.tr hf9) hS9
theorem x_la_w {l : Launch} {g : kx_G} {d : Nat} {h : kx_Mem} (hs : SC h) (S : FS3) (A : DA) (ho : DKok S.1) (hS : FSc3 S A h) (M : Nat) (hI : FnI S M) (Q : Option Value → kx_Mem → Prop) (x1 : Int32) (kont : ∀ w4 w5 w6 w7, kx_X (l, g, m_Fu_payLast, d + 3, 0, 0, Q) 0 0 47 [some (.ref 45), some (.int x1), some (.long (lN (sumN (wtF S) S.1.2.2.1.1))), none, w4, w5, w6, w7] [] h) : ∀ f k, k + f = S.1.2.2.1.1 → ∀ w5 w6 w7, kx_X (l, g, m_Fu_payLast, d + 3, 0, 0, Q) 0 0 5 [some (.ref 45), some (.int x1), some (.long (lN (sumN (wtF S) k))), none, some (.int (nI k)), w5, w6, w7] [] h := by
  have hp := hS.1
  intro f
  induction f with
  | zero =>
    intro k hk w5 w6 w7
    have e : k = S.1.2.2.1.1 := by omega
    subst e
    refine kx_iload (pc := 5) (kx_dd d_Fu_payLast 4 rfl) rfl ?_
    refine kx_aload_n (pc := 7) (kx_dd d_Fu_payLast 5 rfl) rfl rfl ?_
    refine kx_getR (pc := 8) (b := 39) fl_Fu_24 (hs.k 45 rfl) rfl (hs.r 48 rfl) (kx_dd d_Fu_payLast 6 rfl) ?_
    refine kx_getR (pc := 11) (b := 40) fl_Fu_52 (hs.k 39 rfl) rfl (hs.r 43 rfl) (kx_dd d_Fu_payLast 7 rfl) ?_
    refine kx_invV (pc := 14) (a := 40) (as := []) (kx_dd d_Fu_payLast 8 rfl) ⟨lk_Fu_56, wi_AL_size, we_AL_size⟩ w_AL_size (hs.k 40 rfl) rfl rfl rfl rfl (Nat.le_of_ble_eq_true rfl) (x_AL_size (d := d + 2) 40 S.1.2.2.1.1 A.2.2.1 A.2.2.2.1 A.1 (DKc.k40 hs).1 hp.2.2.1) (Nat.le_refl _) ⟨Nat.le_refl _, Nat.le_refl _⟩ (fun v h' hq => ?_)
    obtain ⟨rfl, he⟩ := hq
    rw [he]
    clear he
    refine kx_icmp_ge (pc := 17) (tgt := 47) (kx_dd d_Fu_payLast 9 rfl) rfl (fun c17 => ?_) (fun c17 => ?_)
    · exact kont _ _ _ _
    · exact absurd (Int32.le_refl _) c17
  | succ f ih =>
    intro k hk9 w5 w6 w7
    have hk : k < S.1.2.2.1.1 := by omega
    have o1 := ho.2.2.1.1
    have hI2 := hI.2.2 k hk
    have hM9 := hI.1
    have q10 : cN S.1.2.2.1 k 10 ≤ 6600000 := (ho.2.2.1.2 k hk).2.2.2.2.2.2.2.2.2.2.2.1
    have e10 : h.1 (A.1 k) 10 = nI (cN S.1.2.2.1 k 10) := ((hp.2.2.2.2.1.2 k hk).2.2.2.1 10 (by decide) (by decide)).trans ((ho.2.2.1.2 k hk).1 10 (by decide) (by decide) (by decide) (by decide))
    have e11 : h.1 (A.1 k) 11 = nI (cN S.1.2.2.1 k 11) := ((hp.2.2.2.2.1.2 k hk).2.2.2.1 11 (by decide) (by decide)).trans hI2.1
    refine kx_iload (pc := 5) (kx_dd d_Fu_payLast 4 rfl) rfl ?_
    refine kx_aload_n (pc := 7) (kx_dd d_Fu_payLast 5 rfl) rfl rfl ?_
    refine kx_getR (pc := 8) (b := 39) fl_Fu_24 (hs.k 45 rfl) rfl (hs.r 48 rfl) (kx_dd d_Fu_payLast 6 rfl) ?_
    refine kx_getR (pc := 11) (b := 40) fl_Fu_52 (hs.k 39 rfl) rfl (hs.r 43 rfl) (kx_dd d_Fu_payLast 7 rfl) ?_
    refine kx_invV (pc := 14) (a := 40) (as := []) (kx_dd d_Fu_payLast 8 rfl) ⟨lk_Fu_56, wi_AL_size, we_AL_size⟩ w_AL_size (hs.k 40 rfl) rfl rfl rfl rfl (Nat.le_of_ble_eq_true rfl) (x_AL_size (d := d + 2) 40 S.1.2.2.1.1 A.2.2.1 A.2.2.2.1 A.1 (DKc.k40 hs).1 hp.2.2.1) (Nat.le_refl _) ⟨Nat.le_refl _, Nat.le_refl _⟩ (fun v h' hq => ?_)
    obtain ⟨rfl, he⟩ := hq
    rw [he]
    clear he
    refine kx_icmp_ge (pc := 17) (tgt := 47) (kx_dd d_Fu_payLast 9 rfl) rfl (fun c17 => ?_) (fun c17 => ?_)
    · exact absurd c17 (nI_ge (by omega) (by omega))
    · refine kx_lload_n (pc := 20) (kx_dd d_Fu_payLast 10 rfl) rfl rfl ?_
      refine kx_aload_n (pc := 21) (kx_dd d_Fu_payLast 11 rfl) rfl rfl ?_
      refine kx_getR (pc := 22) (b := 39) fl_Fu_24 (hs.k 45 rfl) rfl (hs.r 48 rfl) (kx_dd d_Fu_payLast 12 rfl) ?_
      refine kx_getR (pc := 25) (b := 40) fl_Fu_52 (hs.k 39 rfl) rfl (hs.r 43 rfl) (kx_dd d_Fu_payLast 13 rfl) ?_
      refine kx_iload (pc := 28) (kx_dd d_Fu_payLast 14 rfl) rfl ?_
      refine kx_invV (pc := 30) (a := 40) (as := [_]) (kx_dd d_Fu_payLast 15 rfl) ⟨lk_Fu_61, wi_AL_get, we_AL_get⟩ w_AL_get (hs.k 40 rfl) rfl rfl rfl rfl (Nat.le_of_ble_eq_true rfl) (x_AL_get (d := d) 40 S.1.2.2.1.1 A.2.2.1 A.2.2.2.1 A.1 (DKc.k40 hs).1 hp.2.2.1 k hk) (Nat.le_refl _) ⟨Nat.le_refl _, Nat.le_refl _⟩ (fun v h' hq => ?_)
      obtain ⟨rfl, he⟩ := hq
      rw [he]
      clear he
      refine kx_cast (pc := 33) (ci := 1) (congrArg Prod.fst (hp.2.2.2.2.1.2 k hk).2.2.1) rfl cl_Fu_65 (kx_dd d_Fu_payLast 16 rfl) ?_
      refine kx_invS (pc := 36) (as := [_]) (kx_dd d_Fu_payLast 17 rfl) ⟨lk_Fu_86, wt_Fu_wantOf⟩ w_Fu_wantOf rfl rfl (Nat.le_of_ble_eq_true rfl) (x_Fu_wantOf (d := d + 1) (A.1 k) _ _ (hp.2.2.2.2.1.2 k hk).2.2.1 e10 e11 (by omega) (by omega)) (Nat.le_refl _) ⟨Nat.le_refl _, Nat.le_refl _⟩ (fun v h' hq => ?_)
      obtain ⟨rfl, he⟩ := hq
      rw [he]
      clear he
      refine kx_ladd (pc := 39) (kx_dd d_Fu_payLast 18 rfl) ?_
      rw [show cN S.1.2.2.1 k 10 - cN S.1.2.2.1 k 11 = wtF S k from rfl, lN_add]
      refine kx_lstore_ne (pc := 40) (lv' := [_, _, _, _, _, _, _, _]) (kx_dd d_Fu_payLast 19 rfl) rfl (Nat.le_of_ble_eq_true rfl) rfl ?_
      refine kx_iinc_e (pc := 41) (v := nI (k + 1)) (lv' := [_, _, _, _, _, _, _, _]) (kx_dd d_Fu_payLast 20 rfl) rfl (Nat.le_of_ble_eq_true rfl) (nI_1 k) rfl ?_
      refine kx_goto (pc := 44) (tgt := 5) (kx_dd d_Fu_payLast 21 rfl) rfl ?_
      exact ih (k + 1) (by omega) _ _ _
theorem x_Fu_payLast {l : Launch} {g : kx_G} {d : Nat} {h : kx_Mem} (hs : SC h) (S : FS3) (A : DA) (ho : DKok S.1) (hS : FSc3 S A h) (M : Nat) (hI : FnI S M) (td : Nat) (htd : td < 2 ^ 31) : kx_Sp l g m_Fu_payLast [.ref 45, .int (nI td)] h (d + 8) 0 0 (fun v h' => v = some (.int (nI (lasK td (getF S (sumN (wtF S) S.1.2.2.1.1)) S S.1.2.2.1.1).1)) ∧ FSc3 (lasK td (getF S (sumN (wtF S) S.1.2.2.1.1)) S S.1.2.2.1.1).2 A h' ∧ kx_Fg FpC FqL h h') := by
  have o1 := ho.2.2.1.1
  have hM := hI.1
  have hKM := hI.2.1
  have hWl := wtS_le ho S.1.2.2.1.1 (Nat.le_refl _)
  have gs := get_sum (S := S) rfl
  refine kx_enter_e (lv := [_, _, _, _, _, _, _, _]) (by decide +kernel) (Nat.le_of_ble_eq_true rfl) rfl ?_
  refine kx_lconst (pc := 0) (v := 0) (kx_dd d_Fu_payLast 0 rfl) rfl ?_
  refine kx_lstore_ne (pc := 1) (lv' := [_, _, _, _, _, _, _, _]) (kx_dd d_Fu_payLast 1 rfl) rfl (Nat.le_of_ble_eq_true rfl) rfl ?_
  refine kx_iconst (pc := 2) (v := 0) (kx_dd d_Fu_payLast 2 rfl) rfl ?_
  refine kx_istore_e (pc := 3) (lv' := [_, _, _, _, _, _, _, _]) (kx_dd d_Fu_payLast 3 rfl) (Nat.le_of_ble_eq_true rfl) rfl ?_
  refine x_la_w (d := d + 5) hs S A ho hS M hI _ _ (fun w4 w5 w6 w7 => ?_) S.1.2.2.1.1 0 (by omega) _ _ _
  refine kx_aload_n (pc := 47) (kx_dd d_Fu_payLast 22 rfl) rfl rfl ?_
  refine kx_getI (pc := 48) fl_Fu_32 (hs.k 45 rfl) rfl (kx_dd d_Fu_payLast 23 rfl) ?_
  refine kx_i2l (pc := 51) (kx_dd d_Fu_payLast 24 rfl) ?_
  refine kx_lload_n (pc := 52) (kx_dd d_Fu_payLast 25 rfl) rfl rfl ?_
  refine kx_lcmp (pc := 53) (kx_dd d_Fu_payLast 26 rfl) ?_
  refine kx_if_ge (pc := 54) (tgt := 62) (kx_dd d_Fu_payLast 27 rfl) rfl (fun c54 => ?_) (fun c54 => ?_)
  · rw [hS.2.1, lg_cmp_ge, nI_l (by omega), pk_lLE (by omega) (by omega)] at c54
    refine kx_aload_n (pc := 62) (kx_dd d_Fu_payLast 31 rfl) rfl rfl ?_
    refine kx_getI (pc := 63) fl_Fu_32 (hs.k 45 rfl) rfl (kx_dd d_Fu_payLast 32 rfl) ?_
    refine kx_i2l (pc := 66) (kx_dd d_Fu_payLast 33 rfl) ?_
    refine kx_lload_n (pc := 67) (kx_dd d_Fu_payLast 34 rfl) rfl rfl ?_
    refine kx_lcmp (pc := 68) (kx_dd d_Fu_payLast 35 rfl) ?_
    refine kx_if_lt (pc := 69) (tgt := 76) (kx_dd d_Fu_payLast 36 rfl) rfl (fun c69 => ?_) (fun c69 => ?_)
    · exact absurd c69 (by rw [hS.2.1, lg_lt, nI_l (by omega), pk_lLT (by omega) (by omega)]; omega)
    · refine kx_iconst (pc := 72) (v := 1) (kx_dd d_Fu_payLast 37 rfl) rfl ?_
      refine kx_goto (pc := 73) (tgt := 77) (kx_dd d_Fu_payLast 38 rfl) rfl ?_
      refine kx_istore_e (pc := 77) (lv' := [_, _, _, _, _, _, _, _]) (kx_dd d_Fu_payLast 40 rfl) (Nat.le_of_ble_eq_true rfl) rfl ?_
      refine kx_iconst (pc := 79) (v := 0) (kx_dd d_Fu_payLast 41 rfl) rfl ?_
      refine kx_istore_e (pc := 80) (lv' := [_, _, _, _, _, _, _, _]) (kx_dd d_Fu_payLast 42 rfl) (Nat.le_of_ble_eq_true rfl) rfl ?_
      refine kx_iconst (pc := 82) (v := 0) (kx_dd d_Fu_payLast 43 rfl) rfl ?_
      refine kx_istore_e (pc := 83) (lv' := [_, _, _, _, _, _, _, _]) (kx_dd d_Fu_payLast 44 rfl) (Nat.le_of_ble_eq_true rfl) rfl ?_
      refine kx_mono (fun v h' z => ⟨z.1, z.2.1, z.2.2.g⟩) (x_la_e h hs S A ho M hI td htd (getF S (sumN (wtF S) S.1.2.2.1.1)) gs (fun k => by unfold getF; rw [if_pos c54]) _ S.1.2.2.1.1 0 (by omega) h _ kx_Fc.rf hS)
  · rw [hS.2.1, lg_cmp_ge, nI_l (by omega), pk_lLE (by omega) (by omega)] at c54
    refine kx_aload_n (pc := 57) (kx_dd d_Fu_payLast 28 rfl) rfl rfl ?_
    refine kx_lload_n (pc := 58) (kx_dd d_Fu_payLast 29 rfl) rfl rfl ?_
    refine kx_invV (pc := 59) (a := 45) (as := [_]) (kx_dd d_Fu_payLast 30 rfl) ⟨lk_Fu_90, wi_Fu_partCoin, we_Fu_partCoin⟩ w_Fu_partCoin (hs.k 45 rfl) rfl rfl rfl rfl (Nat.le_of_ble_eq_true rfl) (x_Fu_partCoin (d := d + 4) hs S A ho hS M hI (sumN (wtF S) S.1.2.2.1.1) rfl (by omega)) (Nat.le_refl _) ⟨Nat.le_refl _, Nat.le_refl _⟩ (fun v h' hq => ?_)
    revert h'
    intro h1 hq
    obtain ⟨rfl, hf1, hg1⟩ := hq
    have hs : SC h1 := hs.fg hf1
    have e0 : h1.1 = h.1 := by funext a j; exact hf1.1 a j id
    have hS1 : FSc3 S A h1 := ⟨hS.1.fgx hf1 (fun a j z => ⟨id, by unfold FqL; omega⟩), by rw [e0]; exact hS.2.1, by rw [e0]; exact hS.2.2⟩
    have h13 : h1.1 45 3 = nI S.2.1 := hS1.2.1
    refine kx_aload_n (pc := 62) (kx_dd d_Fu_payLast 31 rfl) rfl rfl ?_
    refine kx_getI (pc := 63) fl_Fu_32 (hs.k 45 rfl) rfl (kx_dd d_Fu_payLast 32 rfl) ?_
    refine kx_i2l (pc := 66) (kx_dd d_Fu_payLast 33 rfl) ?_
    refine kx_lload_n (pc := 67) (kx_dd d_Fu_payLast 34 rfl) rfl rfl ?_
    refine kx_lcmp (pc := 68) (kx_dd d_Fu_payLast 35 rfl) ?_
    refine kx_if_lt (pc := 69) (tgt := 76) (kx_dd d_Fu_payLast 36 rfl) rfl (fun c69 => ?_) (fun c69 => ?_)
    · refine kx_iconst (pc := 76) (v := 0) (kx_dd d_Fu_payLast 39 rfl) rfl ?_
      refine kx_istore_e (pc := 77) (lv' := [_, _, _, _, _, _, _, _]) (kx_dd d_Fu_payLast 40 rfl) (Nat.le_of_ble_eq_true rfl) rfl ?_
      refine kx_iconst (pc := 79) (v := 0) (kx_dd d_Fu_payLast 41 rfl) rfl ?_
      refine kx_istore_e (pc := 80) (lv' := [_, _, _, _, _, _, _, _]) (kx_dd d_Fu_payLast 42 rfl) (Nat.le_of_ble_eq_true rfl) rfl ?_
      refine kx_iconst (pc := 82) (v := 0) (kx_dd d_Fu_payLast 43 rfl) rfl ?_
      refine kx_istore_e (pc := 83) (lv' := [_, _, _, _, _, _, _, _]) (kx_dd d_Fu_payLast 44 rfl) (Nat.le_of_ble_eq_true rfl) rfl ?_
      refine kx_mono (fun v h' z => ⟨z.1, z.2.1, (hf1.mono (fun _ _ z => z.elim) (fun _ _ z => z)).tr z.2.2.g⟩) (x_la_s h1 hs S A ho M hI td htd (getF S (sumN (wtF S) S.1.2.2.1.1)) gs hg1 _ S.1.2.2.1.1 0 (by omega) h1 _ kx_Fc.rf hS1)
    · exact absurd (by rw [h13, lg_lt, nI_l (by omega), pk_lLT (by omega) (by omega)]; omega) c69
theorem x_Tc_last {l : Launch} {g : kx_G} {d : Nat} {h : kx_Mem} (hs : SC h) (S : FS3) (A : DA) (ho : DKok S.1) (hS : FSc3 S A h) (M : Nat) (hI : FnI S M) (td : Nat) (htd : td < 2 ^ 31) (hck : h.1 0 9 = nI td) : kx_Sp l g m_Tc_last [.ref 0] h (d + 9) 0 0 (fun v h' => v = some (.int (lasR S td).1) ∧ FSc3 (lasR S td).2 A h' ∧ kx_Fg FpC FqL h h') := by
  have o1 := ho.2.2.1.1
  have k0 := cntS_le (s := S.1.2.2.1) (w := 0) S.1.2.2.1.1
  have k1 := cntS_le (s := S.1.2.2.1) (w := 1) S.1.2.2.1.1
  refine kx_enter_e (lv := [_]) (by decide +kernel) (Nat.le_of_ble_eq_true rfl) rfl ?_
  refine kx_aload_n (pc := 0) (kx_dd d_Tc_last 0 rfl) rfl rfl ?_
  refine kx_getR (pc := 1) (b := 39) fl_Tc_57 (hs.k 0 rfl) rfl (hs.r 6 rfl) (kx_dd d_Tc_last 1 rfl) ?_
  refine kx_iconst (pc := 4) (v := 0) (kx_dd d_Tc_last 2 rfl) rfl ?_
  refine kx_invV (pc := 5) (a := 39) (as := [_]) (kx_dd d_Tc_last 3 rfl) ⟨lk_Tc_331, wi_Do_countOf, we_Do_countOf⟩ w_Do_countOf (hs.k 39 rfl) rfl rfl rfl rfl (Nat.le_of_ble_eq_true rfl) (x_Do_countOf (d := d + 5) hs S.1 A ho hS.1 0) (Nat.le_refl _) ⟨Nat.le_refl _, Nat.le_refl _⟩ (fun v h' hq => ?_)
  obtain ⟨rfl, he⟩ := hq
  rw [he]
  clear he
  refine kx_aload_n (pc := 8) (kx_dd d_Tc_last 4 rfl) rfl rfl ?_
  refine kx_getR (pc := 9) (b := 39) fl_Tc_57 (hs.k 0 rfl) rfl (hs.r 6 rfl) (kx_dd d_Tc_last 5 rfl) ?_
  refine kx_iconst (pc := 12) (v := 1) (kx_dd d_Tc_last 6 rfl) rfl ?_
  refine kx_invV (pc := 13) (a := 39) (as := [_]) (kx_dd d_Tc_last 7 rfl) ⟨lk_Tc_331, wi_Do_countOf, we_Do_countOf⟩ w_Do_countOf (hs.k 39 rfl) rfl rfl rfl rfl (Nat.le_of_ble_eq_true rfl) (x_Do_countOf (d := d + 5) hs S.1 A ho hS.1 1) (Nat.le_refl _) ⟨Nat.le_refl _, Nat.le_refl _⟩ (fun v h' hq => ?_)
  obtain ⟨rfl, he⟩ := hq
  rw [he]
  clear he
  refine kx_iadd (pc := 16) (kx_dd d_Tc_last 8 rfl) ?_
  refine kx_if_le (pc := 17) (tgt := 23) (kx_dd d_Tc_last 9 rfl) rfl (fun c17 => ?_) (fun c17 => ?_)
  · rw [nI_add, nI_le0 (by omega)] at c17
    have c17 : ¬ penD S.1 := fun z => by have := (pen_cnt ho).mp z; omega
    refine kx_aload_n (pc := 23) (kx_dd d_Tc_last 12 rfl) rfl rfl ?_
    refine kx_getR (pc := 24) (b := 45) fl_Tc_73 (hs.k 0 rfl) rfl (hs.r 8 rfl) (kx_dd d_Tc_last 13 rfl) ?_
    refine kx_aload_n (pc := 27) (kx_dd d_Tc_last 14 rfl) rfl rfl ?_
    refine kx_getI (pc := 28) fl_Tc_94 (hs.k 0 rfl) rfl (kx_dd d_Tc_last 15 rfl) ?_
    rw [hck]
    refine kx_invV (pc := 31) (a := 45) (as := [_]) (kx_dd d_Tc_last 16 rfl) ⟨lk_Tc_334, wi_Fu_payLast, we_Fu_payLast⟩ w_Fu_payLast (hs.k 45 rfl) rfl rfl rfl rfl (Nat.le_of_ble_eq_true rfl) (x_Fu_payLast (d := d) hs S A ho hS M hI td htd) (Nat.le_refl _) ⟨Nat.le_refl _, Nat.le_refl _⟩ (fun v h' hq => ?_)
    revert h'
    intro h9 hq
    obtain ⟨rfl, hS9, hf9⟩ := hq
    refine kx_iret (pc := 34) rfl (kx_dd d_Tc_last 17 rfl) (Nat.le_refl _) (Nat.le_refl _) ?_
    exact ⟨by rw [lasR_n c17], by rw [lasR_n c17]; exact hS9, hf9⟩
  · refine kx_bipush (pc := 20) (v := -4) (kx_dd d_Tc_last 10 rfl) rfl ?_
    refine kx_iret (pc := 22) rfl (kx_dd d_Tc_last 11 rfl) (Nat.le_refl _) (Nat.le_refl _) ?_
    rw [nI_add, nI_le0 (by omega)] at c17
    exact ⟨by rw [lasR_y ((pen_cnt ho).mpr (by omega))], by rw [lasR_y ((pen_cnt ho).mpr (by omega))]; exact hS, kx_Fg.rf⟩
