/-! the class: Docket.partRole, dueOf -/
def sF1 (I : Nat → Bool) (am sh : Nat → Nat) (k c : Nat) : Nat := if I c then (if c < k then am c else sh c) else sh c
def sF2 (I : Nat → Bool) (am sh : Nat → Nat) (n L k c : Nat) : Nat := if I c then (if c < k then L * am c / aK I am n else am c) else sh c
def sF3 (I : Nat → Bool) (am sh : Nat → Nat) (n L k c : Nat) : Nat := if I c then L * am c / aK I am n + (if c < k ∧ cK I c < L - qK I am L (aK I am n) n then 1 else 0) else sh c
def sFr (I : Nat → Bool) (am sh : Nat → Nat) (n L c : Nat) : Nat := if I c then newS I am n L c else sh c
section SF
variable {I : Nat → Bool} {am sh : Nat → Nat} {n L k i : Nat}
theorem lt_ne (h : i ≠ k) : (i < k + 1) = (i < k) := propext (by omega)
theorem sF1_ne (h : i ≠ k) : sF1 I am sh (k + 1) i = sF1 I am sh k i := by unfold sF1; simp only [lt_ne h]
theorem sF2_ne (h : i ≠ k) : sF2 I am sh n L (k + 1) i = sF2 I am sh n L k i := by unfold sF2; simp only [lt_ne h]
theorem sF3_ne (h : i ≠ k) : sF3 I am sh n L (k + 1) i = sF3 I am sh n L k i := by unfold sF3; simp only [lt_ne h]
theorem sF1_no (hI : ¬ I k = true) : sF1 I am sh (k + 1) i = sF1 I am sh k i := by
  by_cases e : i = k
  · subst e; unfold sF1; rw [if_neg hI, if_neg hI]
  · exact sF1_ne e
theorem sF2_no (hI : ¬ I k = true) : sF2 I am sh n L (k + 1) i = sF2 I am sh n L k i := by
  by_cases e : i = k
  · subst e; unfold sF2; rw [if_neg hI, if_neg hI]
  · exact sF2_ne e
theorem sF3_no (hI : ¬ I k = true) : sF3 I am sh n L (k + 1) i = sF3 I am sh n L k i := by
  by_cases e : i = k
  · subst e; unfold sF3; rw [if_neg hI, if_neg hI]
  · exact sF3_ne e
theorem sF1_at (hI : I k = true) : sF1 I am sh (k + 1) k = am k := by unfold sF1; rw [if_pos hI, if_pos (by omega)]
theorem sF2_at (hI : I k = true) : sF2 I am sh n L (k + 1) k = L * am k / aK I am n := by unfold sF2; rw [if_pos hI, if_pos (by omega)]
theorem sF3_at (hI : I k = true) (hr : cK I k < L - qK I am L (aK I am n) n) : sF3 I am sh n L (k + 1) k = sF3 I am sh n L k k + 1 := by
  unfold sF3
  rw [if_pos hI, if_pos hI, if_pos ⟨by omega, hr⟩, if_neg (fun z => by omega)]
theorem sF1_0 : sF1 I am sh 0 i = sh i := by unfold sF1; split <;> simp
theorem sF1_r (hi : i < n) (hle : aK I am n ≤ L) : sF1 I am sh n i = sFr I am sh n L i := by unfold sF1 sFr newS; rw [if_pos hi, if_pos hle]
theorem sF2_0 (hi : i < n) : sF1 I am sh n i = sF2 I am sh n L 0 i := by unfold sF1 sF2; simp [hi]
theorem sF3_0 (hi : i < n) : sF2 I am sh n L n i = sF3 I am sh n L 0 i := by unfold sF2 sF3; simp [hi]
theorem sF3_r (hbig : ¬ aK I am n ≤ L) (hc : cK I i < L - qK I am L (aK I am n) n → i < k) : sF3 I am sh n L k i = sFr I am sh n L i := by
  unfold sF3 sFr
  by_cases hI : I i = true
  · rw [if_pos hI, if_pos hI]
    unfold newS
    rw [if_neg hbig]
    congr 1
    by_cases z : cK I i < L - qK I am L (aK I am n) n
    · rw [if_pos ⟨hc z, z⟩, if_pos z]
    · rw [if_neg (fun q => z q.2), if_neg z]
  · rw [if_neg hI, if_neg hI]
end SF
theorem nI_dn9 {m : Nat} (h : 0 < m) : nI m + Int32.ofInt (-1) = nI (m - 1) := by
  obtain ⟨q, rfl⟩ : ∃ q, m = q + 1 := ⟨m - 1, by omega⟩
  exact nI_dn q
theorem x_Do_pr3 {l : Launch} {g : kx_G} {d : Nat} {h0 : kx_Mem} (hs0 : SC h0) (D : DK) (A : DA) (ho : DKok D) (hp0 : DKc D A h0) (r : RU) (td t ro : Nat) (hro : ro < 4) (sh : Nat → Nat) (L : Nat) (hL : L ≤ 999999) (hsh0 : SHc D A t sh h0) (hbig : ¬ (aK (inB D r td t ro) (amt D) D.2.2.1.1) ≤ L) : ∀ f k, k + f = D.2.2.1.1 → ∀ h w8, kx_Fc FdC h0 h → SHc D A t (sF3 (inB D r td t ro) (amt D) sh D.2.2.1.1 L k) h → kx_X (l, g, m_Do_partRole, d + 3, 0, 0, (fun v h' => v = some (.int (nI (newL (inB D r td t ro) (amt D) D.2.2.1.1 L))) ∧ SHc D A t (sFr (inB D r td t ro) (amt D) sh D.2.2.1.1 L) h' ∧ kx_Fc FdC h0 h')) 0 0 192 [some (.ref 39), some (.long (lN (pvK (prB D r td t) D.2.2.1.1))), none, some (.int (nI ro)), some (.int (nI L)), some (.int (nI (aK (inB D r td t ro) (amt D) D.2.2.1.1))), some (.int (nI ((L - qK (inB D r td t ro) (amt D) L (aK (inB D r td t ro) (amt D) D.2.2.1.1) D.2.2.1.1) - cK (inB D r td t ro) k))), some (.int (nI k)), w8] [] h := by
  have o60 := ho.2.2.1.1
  have hpv := pvK_lt (I := prB D r td t) D.2.2.1.1
  have hp60 : 2 ^ D.2.2.1.1 ≤ 2 ^ 60 := Nat.pow_le_pow_right (by decide) o60
  have hA9 : (aK (inB D r td t ro) (amt D) D.2.2.1.1) ≤ 999999 * D.2.2.1.1 := aK_le D.2.2.1.1 (fun c hc => (ho.2.2.1.2 c hc).2.2.2.2.2.1)
  have hrst := rest_ok (I := (inB D r td t ro)) (am := (amt D)) hbig
  have hnl : newL (inB D r td t ro) (amt D) D.2.2.1.1 L = 0 := if_neg hbig
  intro f
  induction f with
  | zero =>
    intro k hk h w8 hf hsh
    have hk0 : k = D.2.2.1.1 := by omega
    subst hk0
    have hs := hs0.fc hf
    have hp := hp0.fd hf
    refine kx_iload (pc := 192) (kx_dd d_Do_partRole 97 rfl) rfl ?_
    refine kx_aload_n (pc := 194) (kx_dd d_Do_partRole 98 rfl) rfl rfl ?_
    refine kx_getR (pc := 195) (b := 40) fl_Do_12 (hs.k 39 rfl) rfl (hs.r 43 rfl) (kx_dd d_Do_partRole 99 rfl) ?_
    refine kx_invV (pc := 198) (a := 40) (as := []) (kx_dd d_Do_partRole 100 rfl) ⟨lk_Do_29, wi_AL_size, we_AL_size⟩ w_AL_size (hs.k 40 rfl) rfl rfl rfl rfl (Nat.le_of_ble_eq_true rfl) (x_AL_size (d := d + 2) 40 _ _ _ _ (DKc.k40 hs).1 hp.2.2.1) (Nat.le_refl _) ⟨Nat.le_refl _, Nat.le_refl _⟩ (fun v h' hq => ?_)
    obtain ⟨rfl, he⟩ := hq
    rw [he]
    clear he
    refine kx_icmp_ge (pc := 201) (tgt := 263) (kx_dd d_Do_partRole 101 rfl) rfl (fun c201 => ?_) (fun c201 => ?_)
    · refine kx_iconst (pc := 263) (v := 0) (kx_dd d_Do_partRole 131 rfl) rfl ?_
      refine kx_iret (pc := 264) rfl (kx_dd d_Do_partRole 132 rfl) (Nat.le_refl _) (Nat.le_refl _) ?_
      refine ⟨by rw [hnl]; rfl, fun i hi ht => ?_, hf⟩
      rw [hsh i hi ht, sF3_r hbig (fun (_ : cK (inB D r td t ro) i < (L - qK (inB D r td t ro) (amt D) L (aK (inB D r td t ro) (amt D) D.2.2.1.1) D.2.2.1.1)) => hi)]
    · exact absurd (Int32.le_refl _) c201
  | succ f ih =>
    intro k hk h w8 hf hsh
    have hs := hs0.fc hf
    have hp := hp0.fd hf
    have hcc := hp.2.2.2.2.1.2 k (by omega)
    have occ := ho.2.2.1.2 k (by omega)
    have e3 := (hcc.2.2.2.1 3 (by decide) (by decide)).trans (occ.1 3 (by decide) (by decide) (by decide) (by decide))
    have e4 := (hcc.2.2.2.1 4 (by decide) (by decide)).trans (occ.1 4 (by decide) (by decide) (by decide) (by decide))
    obtain ⟨-, -, -, -, q3, q4, -⟩ := occ
    have hbit : bitN (pvK (prB D r td t) D.2.2.1.1) k = 0 ↔ ¬ prB D r td t k = true := by rw [bit0, pvK_t]; simp [show k < D.2.2.1.1 by omega]
    have hcm := cK_le (I := (inB D r td t ro)) k
    have hck : cK (inB D r td t ro) (k + 1) = if inB D r td t ro k then cK (inB D r td t ro) k + 1 else cK (inB D r td t ro) k := rfl
    refine kx_iload (pc := 192) (kx_dd d_Do_partRole 97 rfl) rfl ?_
    refine kx_aload_n (pc := 194) (kx_dd d_Do_partRole 98 rfl) rfl rfl ?_
    refine kx_getR (pc := 195) (b := 40) fl_Do_12 (hs.k 39 rfl) rfl (hs.r 43 rfl) (kx_dd d_Do_partRole 99 rfl) ?_
    refine kx_invV (pc := 198) (a := 40) (as := []) (kx_dd d_Do_partRole 100 rfl) ⟨lk_Do_29, wi_AL_size, we_AL_size⟩ w_AL_size (hs.k 40 rfl) rfl rfl rfl rfl (Nat.le_of_ble_eq_true rfl) (x_AL_size (d := d + 2) 40 _ _ _ _ (DKc.k40 hs).1 hp.2.2.1) (Nat.le_refl _) ⟨Nat.le_refl _, Nat.le_refl _⟩ (fun v h' hq => ?_)
    obtain ⟨rfl, he⟩ := hq
    rw [he]
    clear he
    refine kx_icmp_ge (pc := 201) (tgt := 263) (kx_dd d_Do_partRole 101 rfl) rfl (fun c201 => ?_) (fun c201 => ?_)
    · exact absurd c201 (nI_ge (by omega) (by omega))
    · refine kx_iload (pc := 204) (kx_dd d_Do_partRole 102 rfl) rfl ?_
      refine kx_if_le (pc := 206) (tgt := 263) (kx_dd d_Do_partRole 103 rfl) rfl (fun c206 => ?_) (fun c206 => ?_)
      · refine kx_iconst (pc := 263) (v := 0) (kx_dd d_Do_partRole 131 rfl) rfl ?_
        refine kx_iret (pc := 264) rfl (kx_dd d_Do_partRole 132 rfl) (Nat.le_refl _) (Nat.le_refl _) ?_
        have hz : (L - qK (inB D r td t ro) (amt D) L (aK (inB D r td t ro) (amt D) D.2.2.1.1) D.2.2.1.1) ≤ cK (inB D r td t ro) k := by
          rcases Nat.lt_or_ge (cK (inB D r td t ro) k) (L - qK (inB D r td t ro) (amt D) L (aK (inB D r td t ro) (amt D) D.2.2.1.1) D.2.2.1.1) with z | z
          · exact absurd c206 (nI_nle (by omega) (by omega))
          · exact z
        refine ⟨by rw [hnl]; rfl, fun i hi ht => ?_, hf⟩
        rw [hsh i hi ht, sF3_r hbig (fun (q : cK (inB D r td t ro) i < (L - qK (inB D r td t ro) (amt D) L (aK (inB D r td t ro) (amt D) D.2.2.1.1) D.2.2.1.1)) => (show i < k by rcases Nat.lt_or_ge i k with z | z; exact z; have := cK_mono (I := (inB D r td t ro)) (k := k) i z; omega))]
      · refine kx_aload_n (pc := 209) (kx_dd d_Do_partRole 104 rfl) rfl rfl ?_
        refine kx_getR (pc := 210) (b := 40) fl_Do_12 (hs.k 39 rfl) rfl (hs.r 43 rfl) (kx_dd d_Do_partRole 105 rfl) ?_
        refine kx_iload (pc := 213) (kx_dd d_Do_partRole 106 rfl) rfl ?_
        refine kx_invV (pc := 215) (a := 40) (as := [_]) (kx_dd d_Do_partRole 107 rfl) ⟨lk_Do_33, wi_AL_get, we_AL_get⟩ w_AL_get (hs.k 40 rfl) rfl rfl rfl rfl (Nat.le_of_ble_eq_true rfl) (x_AL_get (d := d) 40 _ _ _ _ (DKc.k40 hs).1 hp.2.2.1 k (by omega)) (Nat.le_refl _) ⟨Nat.le_refl _, Nat.le_refl _⟩ (fun v h' hq => ?_)
        obtain ⟨rfl, he⟩ := hq
        rw [he]
        clear he
        refine kx_cast (pc := 218) (ci := 1) (congrArg Prod.fst hcc.2.2.1) rfl cl_Do_37 (kx_dd d_Do_partRole 108 rfl) ?_
        refine kx_astore_e (pc := 221) (lv' := [_, _, _, _, _, _, _, _, _]) (kx_dd d_Do_partRole 109 rfl) (Nat.le_of_ble_eq_true rfl) rfl ?_
        refine kx_lload_n (pc := 223) (kx_dd d_Do_partRole 110 rfl) rfl rfl ?_
        refine kx_iload (pc := 224) (kx_dd d_Do_partRole 111 rfl) rfl ?_
        refine kx_lshr (pc := 226) (kx_dd d_Do_partRole 112 rfl) ?_
        refine kx_lconst (pc := 227) (v := 1) (kx_dd d_Do_partRole 113 rfl) rfl ?_
        refine kx_land (pc := 228) (kx_dd d_Do_partRole 114 rfl) ?_
        refine kx_lconst (pc := 229) (v := 0) (kx_dd d_Do_partRole 115 rfl) rfl ?_
        refine kx_lcmp (pc := 230) (kx_dd d_Do_partRole 116 rfl) ?_
        refine kx_if_eq (pc := 231) (tgt := 257) (kx_dd d_Do_partRole 117 rfl) rfl (fun c231 => ?_) (fun c231 => ?_)
        · refine kx_iinc_e (pc := 257) (v := nI (k + 1)) (lv' := [_, _, _, _, _, _, _, _, _]) (kx_dd d_Do_partRole 129 rfl) rfl (Nat.le_of_ble_eq_true rfl) (nI_1 k) rfl ?_
          refine kx_goto (pc := 260) (tgt := 192) (kx_dd d_Do_partRole 130 rfl) rfl ?_
          rw [lN_bit (by omega) (by omega), lN_z (by have := bitN_le (pvK (prB D r td t) D.2.2.1.1) k; omega), hbit] at c231
          have hI : ¬ inB D r td t ro k = true := by unfold inB; rw [Bool.and_eq_true]; exact fun z => c231 z.1
          rw [if_neg hI] at hck
          have ih1 := ih (k + 1) (by omega) h (some (.ref (A.1 k))) hf (fun i hi ht => by rw [hsh i hi ht, sF3_no hI])
          rw [hck] at ih1
          exact ih1
        · refine kx_aload (pc := 234) (kx_dd d_Do_partRole 118 rfl) rfl ?_
          refine kx_getI (pc := 236) fl_Do_156 (congrArg Prod.fst hcc.2.2.1) rfl (kx_dd d_Do_partRole 119 rfl) ?_
          refine kx_iload_n (pc := 239) (kx_dd d_Do_partRole 120 rfl) rfl rfl ?_
          refine kx_icmp_ne (pc := 240) (tgt := 257) (kx_dd d_Do_partRole 121 rfl) rfl (fun c240 => ?_) (fun c240 => ?_)
          · refine kx_iinc_e (pc := 257) (v := nI (k + 1)) (lv' := [_, _, _, _, _, _, _, _, _]) (kx_dd d_Do_partRole 129 rfl) rfl (Nat.le_of_ble_eq_true rfl) (nI_1 k) rfl ?_
            refine kx_goto (pc := 260) (tgt := 192) (kx_dd d_Do_partRole 130 rfl) rfl ?_
            rw [lN_bit (by omega) (by omega), lN_z (by have := bitN_le (pvK (prB D r td t) D.2.2.1.1) k; omega), hbit] at c231
            rw [e3, nI_eq (by omega) (by omega)] at c240
            have hI : ¬ inB D r td t ro k = true := by unfold inB; rw [Bool.and_eq_true, decide_eq_true_iff]; exact fun z => c240 z.2
            rw [if_neg hI] at hck
            have ih1 := ih (k + 1) (by omega) h (some (.ref (A.1 k))) hf (fun i hi ht => by rw [hsh i hi ht, sF3_no hI])
            rw [hck] at ih1
            exact ih1
          · refine kx_aload (pc := 243) (kx_dd d_Do_partRole 122 rfl) rfl ?_
            refine kx_dup (pc := 245) (kx_dd d_Do_partRole 123 rfl) rfl ?_
            refine kx_getI (pc := 246) fl_Do_143 (congrArg Prod.fst hcc.2.2.1) rfl (kx_dd d_Do_partRole 124 rfl) ?_
            refine kx_iconst (pc := 249) (v := 1) (kx_dd d_Do_partRole 125 rfl) rfl ?_
            refine kx_iadd (pc := 250) (kx_dd d_Do_partRole 126 rfl) ?_
            refine kx_putI (pc := 251) fl_Do_143 (congrArg Prod.fst hcc.2.2.1) hcc.2.1 rfl rfl (kx_dd d_Do_partRole 127 rfl) ?_
            have hov9 : 0 < ((L - qK (inB D r td t ro) (amt D) L (aK (inB D r td t ro) (amt D) D.2.2.1.1) D.2.2.1.1) - cK (inB D r td t ro) k) := by
              rcases Nat.eq_zero_or_pos ((L - qK (inB D r td t ro) (amt D) L (aK (inB D r td t ro) (amt D) D.2.2.1.1) D.2.2.1.1) - cK (inB D r td t ro) k) with z | z
              · exact absurd (by rw [z]; decide) c206
              · exact z
            refine kx_iinc_e (pc := 254) (v := nI (((L - qK (inB D r td t ro) (amt D) L (aK (inB D r td t ro) (amt D) D.2.2.1.1) D.2.2.1.1) - cK (inB D r td t ro) k) - 1)) (lv' := [_, _, _, _, _, _, _, _, _]) (kx_dd d_Do_partRole 128 rfl) rfl (Nat.le_of_ble_eq_true rfl) (nI_dn9 hov9) rfl ?_
            refine kx_iinc_e (pc := 257) (v := nI (k + 1)) (lv' := [_, _, _, _, _, _, _, _, _]) (kx_dd d_Do_partRole 129 rfl) rfl (Nat.le_of_ble_eq_true rfl) (nI_1 k) rfl ?_
            refine kx_goto (pc := 260) (tgt := 192) (kx_dd d_Do_partRole 130 rfl) rfl ?_
            rw [lN_bit (by omega) (by omega), lN_z (by have := bitN_le (pvK (prB D r td t) D.2.2.1.1) k; omega), hbit, Classical.not_not] at c231
            rw [e3, nI_eq (by omega) (by omega)] at c240
            have hI : inB D r td t ro k = true := by unfold inB; rw [Bool.and_eq_true, decide_eq_true_iff]; exact ⟨c231, c240⟩
            have hth : cN D.2.2.1 k 2 = t := (of_decide_eq_true c231).1
            rw [if_pos hI] at hck
            have hov : cK (inB D r td t ro) k < (L - qK (inB D r td t ro) (amt D) L (aK (inB D r td t ro) (amt D) D.2.2.1.1) D.2.2.1.1) := by
              rcases Nat.lt_or_ge (cK (inB D r td t ro) k) (L - qK (inB D r td t ro) (amt D) L (aK (inB D r td t ro) (amt D) D.2.2.1.1) D.2.2.1.1) with z | z
              · exact z
              · exact absurd (by rw [show ((L - qK (inB D r td t ro) (amt D) L (aK (inB D r td t ro) (amt D) D.2.2.1.1) D.2.2.1.1) - cK (inB D r td t ro) k) = 0 by omega]; decide) c206
            rw [hsh k (by omega) hth, nI_1, ← sF3_at hI hov]
            have hset := SHc.set (f' := sF3 (inB D r td t ro) (amt D) sh D.2.2.1.1 L (k + 1)) (k := k) hp.2.2.2.2.1 hsh (by omega) (fun i hi ht hik => sF3_ne hik)
            rw [show ((L - qK (inB D r td t ro) (amt D) L (aK (inB D r td t ro) (amt D) D.2.2.1.1) D.2.2.1.1) - cK (inB D r td t ro) k) - 1 = (L - qK (inB D r td t ro) (amt D) L (aK (inB D r td t ro) (amt D) D.2.2.1.1) D.2.2.1.1) - cK (inB D r td t ro) (k + 1) by omega]
            exact ih (k + 1) (by omega) _ _ (hf.tr (kx_Fc.set (Or.inr ⟨hcc.1, rfl⟩))) hset
theorem x_Do_pr2 {l : Launch} {g : kx_G} {d : Nat} {h0 : kx_Mem} (hs0 : SC h0) (D : DK) (A : DA) (ho : DKok D) (hp0 : DKc D A h0) (r : RU) (td t ro : Nat) (hro : ro < 4) (sh : Nat → Nat) (L : Nat) (hL : L ≤ 999999) (hsh0 : SHc D A t sh h0) (hbig : ¬ (aK (inB D r td t ro) (amt D) D.2.2.1.1) ≤ L) : ∀ f k, k + f = D.2.2.1.1 → ∀ h w8, kx_Fc FdC h0 h → SHc D A t (sF2 (inB D r td t ro) (amt D) sh D.2.2.1.1 L k) h → kx_X (l, g, m_Do_partRole, d + 3, 0, 0, (fun v h' => v = some (.int (nI (newL (inB D r td t ro) (amt D) D.2.2.1.1 L))) ∧ SHc D A t (sFr (inB D r td t ro) (amt D) sh D.2.2.1.1 L) h' ∧ kx_Fc FdC h0 h')) 0 0 98 [some (.ref 39), some (.long (lN (pvK (prB D r td t) D.2.2.1.1))), none, some (.int (nI ro)), some (.int (nI L)), some (.int (nI (aK (inB D r td t ro) (amt D) D.2.2.1.1))), some (.int (nI (L - qK (inB D r td t ro) (amt D) L (aK (inB D r td t ro) (amt D) D.2.2.1.1) k))), some (.int (nI k)), w8] [] h := by
  have o60 := ho.2.2.1.1
  have hpv := pvK_lt (I := prB D r td t) D.2.2.1.1
  have hp60 : 2 ^ D.2.2.1.1 ≤ 2 ^ 60 := Nat.pow_le_pow_right (by decide) o60
  have hA9 : (aK (inB D r td t ro) (amt D) D.2.2.1.1) ≤ 999999 * D.2.2.1.1 := aK_le D.2.2.1.1 (fun c hc => (ho.2.2.1.2 c hc).2.2.2.2.2.1)
  have hrst := rest_ok (I := (inB D r td t ro)) (am := (amt D)) hbig
  intro f
  induction f with
  | zero =>
    intro k hk h w8 hf hsh
    have hk0 : k = D.2.2.1.1 := by omega
    subst hk0
    have hs := hs0.fc hf
    have hp := hp0.fd hf
    refine kx_iload (pc := 98) (kx_dd d_Do_partRole 49 rfl) rfl ?_
    refine kx_aload_n (pc := 100) (kx_dd d_Do_partRole 50 rfl) rfl rfl ?_
    refine kx_getR (pc := 101) (b := 40) fl_Do_12 (hs.k 39 rfl) rfl (hs.r 43 rfl) (kx_dd d_Do_partRole 51 rfl) ?_
    refine kx_invV (pc := 104) (a := 40) (as := []) (kx_dd d_Do_partRole 52 rfl) ⟨lk_Do_29, wi_AL_size, we_AL_size⟩ w_AL_size (hs.k 40 rfl) rfl rfl rfl rfl (Nat.le_of_ble_eq_true rfl) (x_AL_size (d := d + 2) 40 _ _ _ _ (DKc.k40 hs).1 hp.2.2.1) (Nat.le_refl _) ⟨Nat.le_refl _, Nat.le_refl _⟩ (fun v h' hq => ?_)
    obtain ⟨rfl, he⟩ := hq
    rw [he]
    clear he
    refine kx_icmp_ge (pc := 107) (tgt := 189) (kx_dd d_Do_partRole 53 rfl) rfl (fun c107 => ?_) (fun c107 => ?_)
    · refine kx_iconst (pc := 189) (v := 0) (kx_dd d_Do_partRole 95 rfl) rfl ?_
      refine kx_istore_e (pc := 190) (lv' := [_, _, _, _, _, _, _, _, _]) (kx_dd d_Do_partRole 96 rfl) (Nat.le_of_ble_eq_true rfl) rfl ?_
      refine x_Do_pr3 hs0 D A ho hp0 r td t ro hro sh L hL hsh0 hbig D.2.2.1.1 0 (by omega) h w8 hf (fun i hi ht => by rw [hsh i hi ht, sF3_0 hi])
    · exact absurd (Int32.le_refl _) c107
  | succ f ih =>
    intro k hk h w8 hf hsh
    have hs := hs0.fc hf
    have hp := hp0.fd hf
    have hcc := hp.2.2.2.2.1.2 k (by omega)
    have occ := ho.2.2.1.2 k (by omega)
    have e3 := (hcc.2.2.2.1 3 (by decide) (by decide)).trans (occ.1 3 (by decide) (by decide) (by decide) (by decide))
    have e4 := (hcc.2.2.2.1 4 (by decide) (by decide)).trans (occ.1 4 (by decide) (by decide) (by decide) (by decide))
    obtain ⟨-, -, -, -, q3, q4, -⟩ := occ
    have hbit : bitN (pvK (prB D r td t) D.2.2.1.1) k = 0 ↔ ¬ prB D r td t k = true := by rw [bit0, pvK_t]; simp [show k < D.2.2.1.1 by omega]
    have hqm := qK_mono (I := (inB D r td t ro)) (am := (amt D)) (L := L) (A := (aK (inB D r td t ro) (amt D) D.2.2.1.1)) (k := k) D.2.2.1.1 (by omega)
    have hqm2 := qK_mono (I := (inB D r td t ro)) (am := (amt D)) (L := L) (A := (aK (inB D r td t ro) (amt D) D.2.2.1.1)) (k := k + 1) D.2.2.1.1 (by omega)
    have hqk : qK (inB D r td t ro) (amt D) L (aK (inB D r td t ro) (amt D) D.2.2.1.1) (k + 1) = if inB D r td t ro k then qK (inB D r td t ro) (amt D) L (aK (inB D r td t ro) (amt D) D.2.2.1.1) k + L * amt D k / (aK (inB D r td t ro) (amt D) D.2.2.1.1) else qK (inB D r td t ro) (amt D) L (aK (inB D r td t ro) (amt D) D.2.2.1.1) k := rfl
    refine kx_iload (pc := 98) (kx_dd d_Do_partRole 49 rfl) rfl ?_
    refine kx_aload_n (pc := 100) (kx_dd d_Do_partRole 50 rfl) rfl rfl ?_
    refine kx_getR (pc := 101) (b := 40) fl_Do_12 (hs.k 39 rfl) rfl (hs.r 43 rfl) (kx_dd d_Do_partRole 51 rfl) ?_
    refine kx_invV (pc := 104) (a := 40) (as := []) (kx_dd d_Do_partRole 52 rfl) ⟨lk_Do_29, wi_AL_size, we_AL_size⟩ w_AL_size (hs.k 40 rfl) rfl rfl rfl rfl (Nat.le_of_ble_eq_true rfl) (x_AL_size (d := d + 2) 40 _ _ _ _ (DKc.k40 hs).1 hp.2.2.1) (Nat.le_refl _) ⟨Nat.le_refl _, Nat.le_refl _⟩ (fun v h' hq => ?_)
    obtain ⟨rfl, he⟩ := hq
    rw [he]
    clear he
    refine kx_icmp_ge (pc := 107) (tgt := 189) (kx_dd d_Do_partRole 53 rfl) rfl (fun c107 => ?_) (fun c107 => ?_)
    · exact absurd c107 (nI_ge (by omega) (by omega))
    · refine kx_aload_n (pc := 110) (kx_dd d_Do_partRole 54 rfl) rfl rfl ?_
      refine kx_getR (pc := 111) (b := 40) fl_Do_12 (hs.k 39 rfl) rfl (hs.r 43 rfl) (kx_dd d_Do_partRole 55 rfl) ?_
      refine kx_iload (pc := 114) (kx_dd d_Do_partRole 56 rfl) rfl ?_
      refine kx_invV (pc := 116) (a := 40) (as := [_]) (kx_dd d_Do_partRole 57 rfl) ⟨lk_Do_33, wi_AL_get, we_AL_get⟩ w_AL_get (hs.k 40 rfl) rfl rfl rfl rfl (Nat.le_of_ble_eq_true rfl) (x_AL_get (d := d) 40 _ _ _ _ (DKc.k40 hs).1 hp.2.2.1 k (by omega)) (Nat.le_refl _) ⟨Nat.le_refl _, Nat.le_refl _⟩ (fun v h' hq => ?_)
      obtain ⟨rfl, he⟩ := hq
      rw [he]
      clear he
      refine kx_cast (pc := 119) (ci := 1) (congrArg Prod.fst hcc.2.2.1) rfl cl_Do_37 (kx_dd d_Do_partRole 58 rfl) ?_
      refine kx_astore_e (pc := 122) (lv' := [_, _, _, _, _, _, _, _, _]) (kx_dd d_Do_partRole 59 rfl) (Nat.le_of_ble_eq_true rfl) rfl ?_
      refine kx_lload_n (pc := 124) (kx_dd d_Do_partRole 60 rfl) rfl rfl ?_
      refine kx_iload (pc := 125) (kx_dd d_Do_partRole 61 rfl) rfl ?_
      refine kx_lshr (pc := 127) (kx_dd d_Do_partRole 62 rfl) ?_
      refine kx_lconst (pc := 128) (v := 1) (kx_dd d_Do_partRole 63 rfl) rfl ?_
      refine kx_land (pc := 129) (kx_dd d_Do_partRole 64 rfl) ?_
      refine kx_lconst (pc := 130) (v := 0) (kx_dd d_Do_partRole 65 rfl) rfl ?_
      refine kx_lcmp (pc := 131) (kx_dd d_Do_partRole 66 rfl) ?_
      refine kx_if_eq (pc := 132) (tgt := 183) (kx_dd d_Do_partRole 67 rfl) rfl (fun c132 => ?_) (fun c132 => ?_)
      · refine kx_iinc_e (pc := 183) (v := nI (k + 1)) (lv' := [_, _, _, _, _, _, _, _, _]) (kx_dd d_Do_partRole 93 rfl) rfl (Nat.le_of_ble_eq_true rfl) (nI_1 k) rfl ?_
        refine kx_goto (pc := 186) (tgt := 98) (kx_dd d_Do_partRole 94 rfl) rfl ?_
        rw [lN_bit (by omega) (by omega), lN_z (by have := bitN_le (pvK (prB D r td t) D.2.2.1.1) k; omega), hbit] at c132
        have hI : ¬ inB D r td t ro k = true := by unfold inB; rw [Bool.and_eq_true]; exact fun z => c132 z.1
        rw [if_neg hI] at hqk
        have ih1 := ih (k + 1) (by omega) h (some (.ref (A.1 k))) hf (fun i hi ht => by rw [hsh i hi ht, sF2_no hI])
        rw [hqk] at ih1
        exact ih1
      · refine kx_aload (pc := 135) (kx_dd d_Do_partRole 68 rfl) rfl ?_
        refine kx_getI (pc := 137) fl_Do_156 (congrArg Prod.fst hcc.2.2.1) rfl (kx_dd d_Do_partRole 69 rfl) ?_
        refine kx_iload_n (pc := 140) (kx_dd d_Do_partRole 70 rfl) rfl rfl ?_
        refine kx_icmp_ne (pc := 141) (tgt := 183) (kx_dd d_Do_partRole 71 rfl) rfl (fun c141 => ?_) (fun c141 => ?_)
        · refine kx_iinc_e (pc := 183) (v := nI (k + 1)) (lv' := [_, _, _, _, _, _, _, _, _]) (kx_dd d_Do_partRole 93 rfl) rfl (Nat.le_of_ble_eq_true rfl) (nI_1 k) rfl ?_
          refine kx_goto (pc := 186) (tgt := 98) (kx_dd d_Do_partRole 94 rfl) rfl ?_
          rw [lN_bit (by omega) (by omega), lN_z (by have := bitN_le (pvK (prB D r td t) D.2.2.1.1) k; omega), hbit] at c132
          rw [e3, nI_eq (by omega) (by omega)] at c141
          have hI : ¬ inB D r td t ro k = true := by unfold inB; rw [Bool.and_eq_true, decide_eq_true_iff]; exact fun z => c141 z.2
          rw [if_neg hI] at hqk
          have ih1 := ih (k + 1) (by omega) h (some (.ref (A.1 k))) hf (fun i hi ht => by rw [hsh i hi ht, sF2_no hI])
          rw [hqk] at ih1
          exact ih1
        · refine kx_aload (pc := 144) (kx_dd d_Do_partRole 72 rfl) rfl ?_
          refine kx_iload (pc := 146) (kx_dd d_Do_partRole 73 rfl) rfl ?_
          refine kx_if_gt (pc := 148) (tgt := 155) (kx_dd d_Do_partRole 74 rfl) rfl (fun c148 => ?_) (fun c148 => ?_)
          · refine kx_iload (pc := 155) (kx_dd d_Do_partRole 77 rfl) rfl ?_
            refine kx_i2l (pc := 157) (kx_dd d_Do_partRole 78 rfl) ?_
            refine kx_aload (pc := 158) (kx_dd d_Do_partRole 79 rfl) rfl ?_
            refine kx_getI (pc := 160) fl_Do_140 (congrArg Prod.fst hcc.2.2.1) rfl (kx_dd d_Do_partRole 80 rfl) ?_
            refine kx_i2l (pc := 163) (kx_dd d_Do_partRole 81 rfl) ?_
            refine kx_lmul (pc := 164) (kx_dd d_Do_partRole 82 rfl) ?_
            refine kx_iload (pc := 165) (kx_dd d_Do_partRole 83 rfl) rfl ?_
            refine kx_i2l (pc := 167) (kx_dd d_Do_partRole 84 rfl) ?_
            refine kx_ldiv (pc := 168) (kx_dd d_Do_partRole 85 rfl) (by rw [nI_l (by omega)]; exact fun z => absurd ((pk_lEQ (a := (aK (inB D r td t ro) (amt D) D.2.2.1.1)) (b := 0) (by omega) (by decide)).mp z) (by omega)) ?_
            refine kx_l2i (pc := 169) (kx_dd d_Do_partRole 86 rfl) ?_
            refine kx_putI (pc := 170) fl_Do_143 (congrArg Prod.fst hcc.2.2.1) hcc.2.1 rfl rfl (kx_dd d_Do_partRole 87 rfl) ?_
            refine kx_iload (pc := 173) (kx_dd d_Do_partRole 88 rfl) rfl ?_
            refine kx_aload (pc := 175) (kx_dd d_Do_partRole 89 rfl) rfl ?_
            refine kx_getI (pc := 177) fl_Do_143 (congrArg Prod.fst hcc.2.2.1) rfl (kx_dd d_Do_partRole 90 rfl) ?_
            refine kx_isub (pc := 180) (kx_dd d_Do_partRole 91 rfl) ?_
            refine kx_istore_e (pc := 181) (lv' := [_, _, _, _, _, _, _, _, _]) (kx_dd d_Do_partRole 92 rfl) (Nat.le_of_ble_eq_true rfl) rfl ?_
            refine kx_iinc_e (pc := 183) (v := nI (k + 1)) (lv' := [_, _, _, _, _, _, _, _, _]) (kx_dd d_Do_partRole 93 rfl) rfl (Nat.le_of_ble_eq_true rfl) (nI_1 k) rfl ?_
            refine kx_goto (pc := 186) (tgt := 98) (kx_dd d_Do_partRole 94 rfl) rfl ?_
            rw [lN_bit (by omega) (by omega), lN_z (by have := bitN_le (pvK (prB D r td t) D.2.2.1.1) k; omega), hbit, Classical.not_not] at c132
            rw [e3, nI_eq (by omega) (by omega)] at c141
            have hI : inB D r td t ro k = true := by unfold inB; rw [Bool.and_eq_true, decide_eq_true_iff]; exact ⟨c132, c141⟩
            have hth : cN D.2.2.1 k 2 = t := (of_decide_eq_true c132).1
            rw [if_pos hI] at hqk
            have hml : L * cN D.2.2.1 k 4 < 2 ^ 62 := by have : L * cN D.2.2.1 k 4 ≤ 999999 * 999999 := Nat.mul_le_mul hL q4; omega
            have ev : ((nI L).toInt64 * (h.1 (A.1 k) 4).toInt64 / (nI (aK (inB D r td t ro) (amt D) D.2.2.1.1)).toInt64).toInt32 = nI (L * amt D k / (aK (inB D r td t ro) (amt D) D.2.2.1.1)) := by
              rw [e4, nI_l (by omega), nI_l (by omega), nI_l (by omega), lN_mul, pk_lDiv (by omega) (by omega) (by omega), lN_i]
            rw [ev]
            rw [show (kx_setI h (A.1 k) 17 (nI (L * amt D k / (aK (inB D r td t ro) (amt D) D.2.2.1.1)))).1 (A.1 k) 17 = nI (L * amt D k / (aK (inB D r td t ro) (amt D) D.2.2.1.1)) by simp [kx_setI, kx_up], pk_sub (by omega)]
            have hset := SHc.set (f' := sF2 (inB D r td t ro) (amt D) sh D.2.2.1.1 L (k + 1)) (k := k) hp.2.2.2.2.1 hsh (by omega) (fun i hi ht hik => sF2_ne hik)
            rw [sF2_at hI] at hset
            rw [show (L - qK (inB D r td t ro) (amt D) L (aK (inB D r td t ro) (amt D) D.2.2.1.1) k) - L * amt D k / (aK (inB D r td t ro) (amt D) D.2.2.1.1) = L - qK (inB D r td t ro) (amt D) L (aK (inB D r td t ro) (amt D) D.2.2.1.1) (k + 1) by omega]
            exact ih (k + 1) (by omega) _ _ (hf.tr (kx_Fc.set (Or.inr ⟨hcc.1, rfl⟩))) hset
          · exact absurd (nI_lt (a := 0) (b := (aK (inB D r td t ro) (amt D) D.2.2.1.1)) (by omega) (by omega)) c148
theorem x_Do_pr1 {l : Launch} {g : kx_G} {d : Nat} {h0 : kx_Mem} (hs0 : SC h0) (D : DK) (A : DA) (ho : DKok D) (hp0 : DKc D A h0) (r : RU) (td t ro : Nat) (hro : ro < 4) (sh : Nat → Nat) (L : Nat) (hL : L ≤ 999999) (hsh0 : SHc D A t sh h0) : ∀ f k, k + f = D.2.2.1.1 → ∀ h w7, kx_Fc FdC h0 h → SHc D A t (sF1 (inB D r td t ro) (amt D) sh k) h → kx_X (l, g, m_Do_partRole, d + 3, 0, 0, (fun v h' => v = some (.int (nI (newL (inB D r td t ro) (amt D) D.2.2.1.1 L))) ∧ SHc D A t (sFr (inB D r td t ro) (amt D) sh D.2.2.1.1 L) h' ∧ kx_Fc FdC h0 h')) 0 0 6 [some (.ref 39), some (.long (lN (pvK (prB D r td t) D.2.2.1.1))), none, some (.int (nI ro)), some (.int (nI L)), some (.int (nI (aK (inB D r td t ro) (amt D) k))), some (.int (nI k)), w7, none] [] h := by
  have o60 := ho.2.2.1.1
  have hpv := pvK_lt (I := prB D r td t) D.2.2.1.1
  have hp60 : 2 ^ D.2.2.1.1 ≤ 2 ^ 60 := Nat.pow_le_pow_right (by decide) o60
  have hA9 : (aK (inB D r td t ro) (amt D) D.2.2.1.1) ≤ 999999 * D.2.2.1.1 := aK_le D.2.2.1.1 (fun c hc => (ho.2.2.1.2 c hc).2.2.2.2.2.1)
  intro f
  induction f with
  | zero =>
    intro k hk h w7 hf hsh
    have hk0 : k = D.2.2.1.1 := by omega
    subst hk0
    have hs := hs0.fc hf
    have hp := hp0.fd hf
    refine kx_iload (pc := 6) (kx_dd d_Do_partRole 4 rfl) rfl ?_
    refine kx_aload_n (pc := 8) (kx_dd d_Do_partRole 5 rfl) rfl rfl ?_
    refine kx_getR (pc := 9) (b := 40) fl_Do_12 (hs.k 39 rfl) rfl (hs.r 43 rfl) (kx_dd d_Do_partRole 6 rfl) ?_
    refine kx_invV (pc := 12) (a := 40) (as := []) (kx_dd d_Do_partRole 7 rfl) ⟨lk_Do_29, wi_AL_size, we_AL_size⟩ w_AL_size (hs.k 40 rfl) rfl rfl rfl rfl (Nat.le_of_ble_eq_true rfl) (x_AL_size (d := d + 2) 40 _ _ _ _ (DKc.k40 hs).1 hp.2.2.1) (Nat.le_refl _) ⟨Nat.le_refl _, Nat.le_refl _⟩ (fun v h' hq => ?_)
    obtain ⟨rfl, he⟩ := hq
    rw [he]
    clear he
    refine kx_icmp_ge (pc := 15) (tgt := 78) (kx_dd d_Do_partRole 8 rfl) rfl (fun c15 => ?_) (fun c15 => ?_)
    · refine kx_iload (pc := 78) (kx_dd d_Do_partRole 38 rfl) rfl ?_
      refine kx_iload (pc := 80) (kx_dd d_Do_partRole 39 rfl) rfl ?_
      refine kx_icmp_gt (pc := 82) (tgt := 91) (kx_dd d_Do_partRole 40 rfl) rfl (fun c82 => ?_) (fun c82 => ?_)
      · refine kx_iload (pc := 91) (kx_dd d_Do_partRole 45 rfl) rfl ?_
        refine kx_istore_e (pc := 93) (lv' := [_, _, _, _, _, _, _, _, _]) (kx_dd d_Do_partRole 46 rfl) (Nat.le_of_ble_eq_true rfl) rfl ?_
        refine kx_iconst (pc := 95) (v := 0) (kx_dd d_Do_partRole 47 rfl) rfl ?_
        refine kx_istore_e (pc := 96) (lv' := [_, _, _, _, _, _, _, _, _]) (kx_dd d_Do_partRole 48 rfl) (Nat.le_of_ble_eq_true rfl) rfl ?_
        rw [nI_ltI (by omega) (by omega)] at c82
        refine x_Do_pr2 hs0 D A ho hp0 r td t ro hro sh L hL hsh0 (by omega) D.2.2.1.1 0 (by omega) h _ hf (fun i hi ht => by rw [hsh i hi ht, sF2_0 hi])
      · refine kx_iload (pc := 85) (kx_dd d_Do_partRole 41 rfl) rfl ?_
        refine kx_iload (pc := 87) (kx_dd d_Do_partRole 42 rfl) rfl ?_
        refine kx_isub (pc := 89) (kx_dd d_Do_partRole 43 rfl) ?_
        refine kx_iret (pc := 90) rfl (kx_dd d_Do_partRole 44 rfl) (Nat.le_refl _) (Nat.le_refl _) ?_
        rw [nI_ltI (by omega) (by omega)] at c82
        have hle : (aK (inB D r td t ro) (amt D) D.2.2.1.1) ≤ L := by omega
        refine ⟨by rw [pk_sub hle]; unfold newL; rw [if_pos hle], fun i hi ht => by rw [hsh i hi ht, sF1_r hi hle], hf⟩
    · exact absurd (Int32.le_refl _) c15
  | succ f ih =>
    intro k hk h w7 hf hsh
    have hs := hs0.fc hf
    have hp := hp0.fd hf
    have hcc := hp.2.2.2.2.1.2 k (by omega)
    have occ := ho.2.2.1.2 k (by omega)
    have e3 := (hcc.2.2.2.1 3 (by decide) (by decide)).trans (occ.1 3 (by decide) (by decide) (by decide) (by decide))
    have e4 := (hcc.2.2.2.1 4 (by decide) (by decide)).trans (occ.1 4 (by decide) (by decide) (by decide) (by decide))
    obtain ⟨-, -, -, -, q3, q4, -⟩ := occ
    have hbit : bitN (pvK (prB D r td t) D.2.2.1.1) k = 0 ↔ ¬ prB D r td t k = true := by rw [bit0, pvK_t]; simp [show k < D.2.2.1.1 by omega]
    have hak : aK (inB D r td t ro) (amt D) (k + 1) = if inB D r td t ro k then aK (inB D r td t ro) (amt D) k + amt D k else aK (inB D r td t ro) (amt D) k := rfl
    refine kx_iload (pc := 6) (kx_dd d_Do_partRole 4 rfl) rfl ?_
    refine kx_aload_n (pc := 8) (kx_dd d_Do_partRole 5 rfl) rfl rfl ?_
    refine kx_getR (pc := 9) (b := 40) fl_Do_12 (hs.k 39 rfl) rfl (hs.r 43 rfl) (kx_dd d_Do_partRole 6 rfl) ?_
    refine kx_invV (pc := 12) (a := 40) (as := []) (kx_dd d_Do_partRole 7 rfl) ⟨lk_Do_29, wi_AL_size, we_AL_size⟩ w_AL_size (hs.k 40 rfl) rfl rfl rfl rfl (Nat.le_of_ble_eq_true rfl) (x_AL_size (d := d + 2) 40 _ _ _ _ (DKc.k40 hs).1 hp.2.2.1) (Nat.le_refl _) ⟨Nat.le_refl _, Nat.le_refl _⟩ (fun v h' hq => ?_)
    obtain ⟨rfl, he⟩ := hq
    rw [he]
    clear he
    refine kx_icmp_ge (pc := 15) (tgt := 78) (kx_dd d_Do_partRole 8 rfl) rfl (fun c15 => ?_) (fun c15 => ?_)
    · exact absurd c15 (nI_ge (by omega) (by omega))
    · refine kx_aload_n (pc := 18) (kx_dd d_Do_partRole 9 rfl) rfl rfl ?_
      refine kx_getR (pc := 19) (b := 40) fl_Do_12 (hs.k 39 rfl) rfl (hs.r 43 rfl) (kx_dd d_Do_partRole 10 rfl) ?_
      refine kx_iload (pc := 22) (kx_dd d_Do_partRole 11 rfl) rfl ?_
      refine kx_invV (pc := 24) (a := 40) (as := [_]) (kx_dd d_Do_partRole 12 rfl) ⟨lk_Do_33, wi_AL_get, we_AL_get⟩ w_AL_get (hs.k 40 rfl) rfl rfl rfl rfl (Nat.le_of_ble_eq_true rfl) (x_AL_get (d := d) 40 _ _ _ _ (DKc.k40 hs).1 hp.2.2.1 k (by omega)) (Nat.le_refl _) ⟨Nat.le_refl _, Nat.le_refl _⟩ (fun v h' hq => ?_)
      obtain ⟨rfl, he⟩ := hq
      rw [he]
      clear he
      refine kx_cast (pc := 27) (ci := 1) (congrArg Prod.fst hcc.2.2.1) rfl cl_Do_37 (kx_dd d_Do_partRole 13 rfl) ?_
      refine kx_astore_e (pc := 30) (lv' := [_, _, _, _, _, _, _, _, _]) (kx_dd d_Do_partRole 14 rfl) (Nat.le_of_ble_eq_true rfl) rfl ?_
      refine kx_lload_n (pc := 32) (kx_dd d_Do_partRole 15 rfl) rfl rfl ?_
      refine kx_iload (pc := 33) (kx_dd d_Do_partRole 16 rfl) rfl ?_
      refine kx_lshr (pc := 35) (kx_dd d_Do_partRole 17 rfl) ?_
      refine kx_lconst (pc := 36) (v := 1) (kx_dd d_Do_partRole 18 rfl) rfl ?_
      refine kx_land (pc := 37) (kx_dd d_Do_partRole 19 rfl) ?_
      refine kx_lconst (pc := 38) (v := 0) (kx_dd d_Do_partRole 20 rfl) rfl ?_
      refine kx_lcmp (pc := 39) (kx_dd d_Do_partRole 21 rfl) ?_
      refine kx_if_eq (pc := 40) (tgt := 72) (kx_dd d_Do_partRole 22 rfl) rfl (fun c40 => ?_) (fun c40 => ?_)
      · refine kx_iinc_e (pc := 72) (v := nI (k + 1)) (lv' := [_, _, _, _, _, _, _, _, _]) (kx_dd d_Do_partRole 36 rfl) rfl (Nat.le_of_ble_eq_true rfl) (nI_1 k) rfl ?_
        refine kx_goto (pc := 75) (tgt := 6) (kx_dd d_Do_partRole 37 rfl) rfl ?_
        rw [lN_bit (by omega) (by omega), lN_z (by have := bitN_le (pvK (prB D r td t) D.2.2.1.1) k; omega), hbit] at c40
        have hI : ¬ inB D r td t ro k = true := by unfold inB; rw [Bool.and_eq_true]; exact fun z => c40 z.1
        rw [if_neg hI] at hak
        have ih1 := ih (k + 1) (by omega) h (some (.ref (A.1 k))) hf (fun i hi ht => by rw [hsh i hi ht, sF1_no hI])
        rw [hak] at ih1
        exact ih1
      · refine kx_aload (pc := 43) (kx_dd d_Do_partRole 23 rfl) rfl ?_
        refine kx_getI (pc := 45) fl_Do_156 (congrArg Prod.fst hcc.2.2.1) rfl (kx_dd d_Do_partRole 24 rfl) ?_
        refine kx_iload_n (pc := 48) (kx_dd d_Do_partRole 25 rfl) rfl rfl ?_
        refine kx_icmp_ne (pc := 49) (tgt := 72) (kx_dd d_Do_partRole 26 rfl) rfl (fun c49 => ?_) (fun c49 => ?_)
        · refine kx_iinc_e (pc := 72) (v := nI (k + 1)) (lv' := [_, _, _, _, _, _, _, _, _]) (kx_dd d_Do_partRole 36 rfl) rfl (Nat.le_of_ble_eq_true rfl) (nI_1 k) rfl ?_
          refine kx_goto (pc := 75) (tgt := 6) (kx_dd d_Do_partRole 37 rfl) rfl ?_
          rw [lN_bit (by omega) (by omega), lN_z (by have := bitN_le (pvK (prB D r td t) D.2.2.1.1) k; omega), hbit] at c40
          rw [e3, nI_eq (by omega) (by omega)] at c49
          have hI : ¬ inB D r td t ro k = true := by unfold inB; rw [Bool.and_eq_true, decide_eq_true_iff]; exact fun z => c49 z.2
          rw [if_neg hI] at hak
          have ih1 := ih (k + 1) (by omega) h (some (.ref (A.1 k))) hf (fun i hi ht => by rw [hsh i hi ht, sF1_no hI])
          rw [hak] at ih1
          exact ih1
        · refine kx_aload (pc := 52) (kx_dd d_Do_partRole 27 rfl) rfl ?_
          refine kx_aload (pc := 54) (kx_dd d_Do_partRole 28 rfl) rfl ?_
          refine kx_getI (pc := 56) fl_Do_140 (congrArg Prod.fst hcc.2.2.1) rfl (kx_dd d_Do_partRole 29 rfl) ?_
          refine kx_putI (pc := 59) fl_Do_143 (congrArg Prod.fst hcc.2.2.1) hcc.2.1 rfl rfl (kx_dd d_Do_partRole 30 rfl) ?_
          refine kx_iload (pc := 62) (kx_dd d_Do_partRole 31 rfl) rfl ?_
          refine kx_aload (pc := 64) (kx_dd d_Do_partRole 32 rfl) rfl ?_
          refine kx_getI (pc := 66) fl_Do_140 (congrArg Prod.fst hcc.2.2.1) rfl (kx_dd d_Do_partRole 33 rfl) ?_
          refine kx_iadd (pc := 69) (kx_dd d_Do_partRole 34 rfl) ?_
          refine kx_istore_e (pc := 70) (lv' := [_, _, _, _, _, _, _, _, _]) (kx_dd d_Do_partRole 35 rfl) (Nat.le_of_ble_eq_true rfl) rfl ?_
          refine kx_iinc_e (pc := 72) (v := nI (k + 1)) (lv' := [_, _, _, _, _, _, _, _, _]) (kx_dd d_Do_partRole 36 rfl) rfl (Nat.le_of_ble_eq_true rfl) (nI_1 k) rfl ?_
          refine kx_goto (pc := 75) (tgt := 6) (kx_dd d_Do_partRole 37 rfl) rfl ?_
          rw [lN_bit (by omega) (by omega), lN_z (by have := bitN_le (pvK (prB D r td t) D.2.2.1.1) k; omega), hbit, Classical.not_not] at c40
          rw [e3, nI_eq (by omega) (by omega)] at c49
          have hI : inB D r td t ro k = true := by unfold inB; rw [Bool.and_eq_true, decide_eq_true_iff]; exact ⟨c40, c49⟩
          rw [if_pos hI] at hak
          rw [e4, show (kx_setI h (A.1 k) 17 (nI (cN D.2.2.1 k 4))).1 (A.1 k) 4 = nI (cN D.2.2.1 k 4) by rw [← e4]; simp [kx_setI, kx_up], nI_add]
          have hset := SHc.set (f' := sF1 (inB D r td t ro) (amt D) sh (k + 1)) (k := k) hp.2.2.2.2.1 hsh (by omega) (fun i hi ht hik => sF1_ne hik)
          rw [sF1_at hI] at hset
          have ih1 := ih (k + 1) (by omega) _ (some (.ref (A.1 k))) (hf.tr (kx_Fc.set (Or.inr ⟨hcc.1, rfl⟩))) hset
          rw [hak] at ih1
          exact ih1
theorem x_Do_partRole {l : Launch} {g : kx_G} {d : Nat} {h : kx_Mem} (hs : SC h) (D : DK) (A : DA) (ho : DKok D) (hp : DKc D A h) (r : RU) (td t ro : Nat) (hro : ro < 4) (sh : Nat → Nat) (L : Nat) (hL : L ≤ 999999) (hsh : SHc D A t sh h) : kx_Sp l g m_Do_partRole [.ref 39, .long (lN (pvK (prB D r td t) D.2.2.1.1)), .int (nI ro), .int (nI L)] h (d + 3) 0 0 (fun v h' => v = some (.int (nI (newL (inB D r td t ro) (amt D) D.2.2.1.1 L))) ∧ SHc D A t (sFr (inB D r td t ro) (amt D) sh D.2.2.1.1 L) h' ∧ kx_Fc FdC h h') := by
  refine kx_enter_e (lv := [_, _, _, _, _, _, _, _, _]) (by decide +kernel) (Nat.le_of_ble_eq_true rfl) rfl ?_
  refine kx_iconst (pc := 0) (v := 0) (kx_dd d_Do_partRole 0 rfl) rfl ?_
  refine kx_istore_e (pc := 1) (lv' := [_, _, _, _, _, _, _, _, _]) (kx_dd d_Do_partRole 1 rfl) (Nat.le_of_ble_eq_true rfl) rfl ?_
  refine kx_iconst (pc := 3) (v := 0) (kx_dd d_Do_partRole 2 rfl) rfl ?_
  refine kx_istore_e (pc := 4) (lv' := [_, _, _, _, _, _, _, _, _]) (kx_dd d_Do_partRole 3 rfl) (Nat.le_of_ble_eq_true rfl) rfl ?_
  refine x_Do_pr1 hs D A ho hp r td t ro hro sh L hL hsh D.2.2.1.1 0 (by omega) h _ kx_Fc.rf (fun i hi ht => by rw [hsh i hi ht, sF1_0])
