/-! top-level: vote -/
theorem valU {n : Nat} (hn : n < 2 ^ 31) {a : Int32} (h : 0 ≤ a ∧ a ≤ nI n) : ∃ k, k ≤ n ∧ k < 2 ^ 31 ∧ a = nI k := by
  obtain ⟨k, hk, rfl⟩ := nI_of (Int32.not_lt.mpr h.1)
  exact ⟨k, (nI_leI hk hn).mp h.2, hk, rfl⟩
theorem minI {x y : Nat} (hx : x < 2 ^ 31) (hy : y < 2 ^ 31) : (if nI y < nI x then nI y else nI x) = nI (if y < x then y else x) := by
  by_cases e : y < x
  · rw [if_pos ((nI_ltI hy hx).mpr e), if_pos e]
  · rw [if_neg (fun z => e ((nI_ltI hy hx).mp z)), if_neg e]
theorem maxI {x y : Nat} (hx : x < 2 ^ 31) (hy : y < 2 ^ 31) : (if nI x < nI y then nI y else nI x) = nI (if x < y then y else x) := by
  by_cases e : x < y
  · rw [if_pos ((nI_ltI hx hy).mpr e), if_pos e]
  · rw [if_neg (fun z => e ((nI_ltI hx hy).mp z)), if_neg e]
theorem CVs.fv {A : Nat → Nat} {D : Nat} {V : Nat → RU} {P : Nat → Nat → Prop} {h h' : kx_Mem} (hV : CVs A D V h) (hf : kx_Fc P h h') (hP : ∀ b j, b < 84 → b ≠ 38 → ¬ P b j) : CVs A D V h' := by
  refine ⟨by rw [hf.1]; exact hV.1, hV.2.1, fun u hu => ?_⟩
  obtain ⟨h1, h2, h3, h4, h5, h6⟩ := hV.2.2 u hu
  refine ⟨by rw [hf.1]; exact h1, h2, h3, h4, h5.fg (L := fun _ _ => False) hf.g (fun x j q1 q2 => ⟨hP x j ?_ ?_, id⟩), h6⟩
  · have := h2.g; omega
  · have := h2.g; unfold isRuA at h2; omega
/-- what a call that works on claims may change -/
def FvC (a _j : Nat) : Prop := a = 38 ∨ 154 ≤ a
def FvM (n a j : Nat) : Prop := FdM a j ∨ (130 ≤ a ∧ a ≤ 138 ∧ j < n)
def DkQ (X : Int32 × DK) (K : DK → kx_Mem → Prop) (F : Nat → Nat → Prop) (h : kx_Mem) (v : Option Value) (h' : kx_Mem) : Prop := v = some (.int X.1) ∧ DKok X.2 ∧ K X.2 h' ∧ kx_Fc F h h'
theorem DkQ.of {X : Int32 × DK} {x : Int32} {D' : DK} {K : DK → kx_Mem → Prop} {F : Nat → Nat → Prop} {h h' : kx_Mem} (e : X = (x, D')) (h1 : DKok D') (h2 : K D' h') (h3 : kx_Fc F h h') : DkQ X K F h (some (.int x)) h' := by
  subst e
  exact ⟨rfl, h1, h2, h3⟩
def splD (D : DK) (c : Nat) (a b : Int32) : DK := setCf (setCf (setCf D c 8 1) c 13 a) c 14 b
def votS (r : RU) (b c : Nat) : Nat := if rsN r 6 = 0 then (if c < b then c else b) else (b + c) / 2
noncomputable def votR (D : DK) (r : RU) (td : Nat) (a b c : Int32) : Int32 × DK :=
  if 0 ≤ a ∧ a < nI D.2.2.1.1 then
    if cN D.2.2.1 a.toNatClampNeg 8 = 0 then
      if (0 ≤ b ∧ b ≤ nI (dueF D r td a.toNatClampNeg)) ∧ (0 ≤ c ∧ c ≤ nI (dueF D r td a.toNatClampNeg)) then
        if b ≠ c ∧ rsN r 6 = 2 then (1, splD D a.toNatClampNeg b c)
        else (2, decD D r td a.toNatClampNeg (votS r b.toNatClampNeg c.toNatClampNeg) (dueF D r td a.toNatClampNeg))
      else (-2, D)
    else (-4, D)
  else (-2, D)
theorem votS_le {r : RU} {b c n : Nat} (hb : b ≤ n) (hc : c ≤ n) : votS r b c ≤ n := by
  unfold votS
  split
  · split <;> omega
  · omega
theorem splD_ok {D : DK} (ho : DKok D) {c a b : Nat} (ha : a ≤ 999999) (hb : b ≤ 999999) : DKok (splD D c (nI a) (nI b)) := ((ho.set (by decide) (Or.inr ⟨1, rfl, by decide⟩)).set (by decide) (Or.inr ⟨a, rfl, by have : bnd 13 = 999999 := rfl; omega⟩)).set (by decide) (Or.inr ⟨b, rfl, by have : bnd 14 = 999999 := rfl; omega⟩)
theorem x_Tc_vote {l : Launch} {g : kx_G} {d : Nat} {h : kx_Mem} (hs : SC h) (D : DK) (A : DA) (ho : DKok D) (hp : DKc D A h) (AV : Nat → Nat) (DV : Nat) (V : Nat → RU) (hV : CVs AV DV V h) (u : Nat) (hu : u < 4) (hif : h.1 0 10 = nI u) (hse : RSet (V u)) (td : Nat) (htd : td ≤ 1999) (hck : h.1 0 9 = nI td) (hfi : ∀ c, c < D.2.2.1.1 → cN D.2.2.1 c 5 ≤ td) (a b c : Int32) : kx_Sp l g m_Tc_vote [.ref 0, .int a, .int b, .int c] h (d + 6) 0 0 (fun v h' => DkQ (votR D (V u) td a b c) (fun D h => DKc D A h) FvC h v h') := by
  have o1 := ho.2.2.1.1
  by_cases e9 : 0 ≤ a ∧ a < nI D.2.2.1.1
  · skip
    obtain ⟨a9, ha9, rfl⟩ := valP (n := D.2.2.1.1) (by omega) e9
    have e1 : h.1 (A.1 a9) 8 = nI (cN D.2.2.1 a9 8) := ((hp.2.2.2.2.1.2 a9 ha9).2.2.2.1 8 (by decide) (by decide)).trans ((ho.2.2.1.2 a9 ha9).1 8 (by decide) (by decide) (by decide) (by decide))
    have b8 : cN D.2.2.1 a9 8 ≤ 3 := (ho.2.2.1.2 a9 ha9).2.2.2.2.2.2.2.2.2.1
    refine kx_enter_e (lv := [_, _, _, _, _, _, _, _]) (by decide +kernel) (Nat.le_of_ble_eq_true rfl) rfl ?_
    refine kx_aload_n (pc := 0) (kx_dd d_Tc_vote 0 rfl) rfl rfl ?_
    refine kx_getR (pc := 1) (b := 39) fl_Tc_57 (hs.k 0 rfl) rfl (hs.r 6 rfl) (kx_dd d_Tc_vote 1 rfl) ?_
    refine kx_iload_n (pc := 4) (kx_dd d_Tc_vote 2 rfl) rfl rfl ?_
    refine kx_invV (pc := 5) (a := 39) (as := [_]) (kx_dd d_Tc_vote 3 rfl) ⟨lk_Tc_190, wi_Do_claimAt, we_Do_claimAt⟩ w_Do_claimAt (hs.k 39 rfl) rfl rfl rfl rfl (Nat.le_of_ble_eq_true rfl) (x_Do_claimAt (d := d + 2) hs D A ho hp a9 ha9) (Nat.le_refl _) ⟨Nat.le_refl _, Nat.le_refl _⟩ (fun v h' hq => ?_)
    obtain ⟨rfl, he⟩ := hq
    rw [he]
    clear he
    refine kx_astore_e (pc := 8) (lv' := [_, _, _, _, _, _, _, _]) (kx_dd d_Tc_vote 4 rfl) (Nat.le_of_ble_eq_true rfl) rfl ?_
    refine kx_aload_n (pc := 10) (kx_dd d_Tc_vote 5 rfl) rfl rfl ?_
    refine kx_aload_n (pc := 11) (kx_dd d_Tc_vote 6 rfl) rfl rfl ?_
    refine kx_getI (pc := 12) fl_Tc_148 (hs.k 0 rfl) rfl (kx_dd d_Tc_vote 7 rfl) ?_
    rw [hif]
    refine kx_invV (pc := 15) (a := 0) (as := [_]) (kx_dd d_Tc_vote 8 rfl) ⟨lk_Tc_151, wi_Tc_versionAt, we_Tc_versionAt⟩ w_Tc_versionAt (hs.k 0 rfl) rfl rfl rfl rfl (Nat.le_of_ble_eq_true rfl) (x_Tc_versionV (d := d + 4) hs AV DV V hV u hu) (Nat.le_refl _) ⟨Nat.le_refl _, Nat.le_refl _⟩ (fun v h' hq => ?_)
    obtain ⟨rfl, he⟩ := hq
    rw [he]
    clear he
    refine kx_astore_e (pc := 18) (lv' := [_, _, _, _, _, _, _, _]) (kx_dd d_Tc_vote 9 rfl) (Nat.le_of_ble_eq_true rfl) rfl ?_
    refine kx_aload (pc := 20) (kx_dd d_Tc_vote 10 rfl) rfl ?_
    refine kx_ifnull (pc := 22) (kx_dd d_Tc_vote 11 rfl) ?_
    refine kx_aload (pc := 25) (kx_dd d_Tc_vote 12 rfl) rfl ?_
    refine kx_ifnonnull (pc := 27) (tgt := 33) (kx_dd d_Tc_vote 13 rfl) rfl ?_
    refine kx_aload (pc := 33) (kx_dd d_Tc_vote 16 rfl) rfl ?_
    refine kx_getI (pc := 35) fl_Tc_239 (congrArg Prod.fst (hp.2.2.2.2.1.2 a9 ha9).2.2.1) rfl (kx_dd d_Tc_vote 17 rfl) ?_
    refine kx_if_eq (pc := 38) (tgt := 44) (kx_dd d_Tc_vote 18 rfl) rfl (fun c38 => ?_) (fun c38 => ?_)
    · rw [e1, nI_z (by omega)] at c38
      refine kx_aload_n (pc := 44) (kx_dd d_Tc_vote 21 rfl) rfl rfl ?_
      refine kx_getR (pc := 45) (b := 39) fl_Tc_57 (hs.k 0 rfl) rfl (hs.r 6 rfl) (kx_dd d_Tc_vote 22 rfl) ?_
      refine kx_aload (pc := 48) (kx_dd d_Tc_vote 23 rfl) rfl ?_
      refine kx_aload (pc := 50) (kx_dd d_Tc_vote 24 rfl) rfl ?_
      refine kx_aload_n (pc := 52) (kx_dd d_Tc_vote 25 rfl) rfl rfl ?_
      refine kx_getI (pc := 53) fl_Tc_94 (hs.k 0 rfl) rfl (kx_dd d_Tc_vote 26 rfl) ?_
      rw [hck]
      refine kx_invV (pc := 56) (a := 39) (as := [_, _, _]) (kx_dd d_Tc_vote 27 rfl) ⟨lk_Tc_243, wi_Do_dueOf, we_Do_dueOf⟩ w_Do_dueOf (hs.k 39 rfl) rfl rfl rfl rfl (Nat.le_of_ble_eq_true rfl) (x_Do_dueOf (d := d) hs D A ho hp (AV u) (hV.2.2 u hu).2.1 (V u) (hV.2.2 u hu).2.2.2.1 (hV.2.2 u hu).2.2.2.2.1 a9 ha9 td (by omega)) (Nat.le_refl _) ⟨Nat.le_refl _, Nat.le_refl _⟩ (fun v h' hq => ?_)
      revert h'
      intro h1 hq
      obtain ⟨rfl, hf9⟩ := hq
      have hs : SC h1 := hs.fc hf9
      have hp : DKc D A h1 := hp.fd hf9
      have hV : CVs AV DV V h1 := hV.fv hf9 (fun b j q1 q2 => by unfold FdC; omega)
      have hck : h1.1 0 9 = nI td := by rw [hf9.2 0 9 (by unfold FdC; omega)]; exact hck
      have hF9 : kx_Fc FvC h h1 := hf9.mono (fun a j z => by unfold FdC at z; unfold FvC; omega)
      refine kx_istore_e (pc := 59) (lv' := [_, _, _, _, _, _, _, _]) (kx_dd d_Tc_vote 28 rfl) (Nat.le_of_ble_eq_true rfl) rfl ?_
      refine kx_iload_n (pc := 61) (kx_dd d_Tc_vote 29 rfl) rfl rfl ?_
      refine kx_iconst (pc := 62) (v := 0) (kx_dd d_Tc_vote 30 rfl) rfl ?_
      refine kx_iload (pc := 63) (kx_dd d_Tc_vote 31 rfl) rfl ?_
      refine kx_invS (pc := 65) (as := [_, _, _]) (kx_dd d_Tc_vote 32 rfl) ⟨lk_Tc_90, wt_Tc_within⟩ w_Tc_within rfl rfl (Nat.le_of_ble_eq_true rfl) (x_Tc_within (d := d + 5) b 0 _) (Nat.le_refl _) ⟨Nat.le_refl _, Nat.le_refl _⟩ (fun v h' hq => ?_)
      obtain ⟨rfl, he⟩ := hq
      rw [he]
      clear he
      refine kx_if_eq (pc := 68) (tgt := 81) (kx_dd d_Tc_vote 33 rfl) rfl (fun c68 => ?_) (fun c68 => ?_)
      · refine kx_bipush (pc := 81) (v := -2) (kx_dd d_Tc_vote 39 rfl) rfl ?_
        refine kx_iret (pc := 83) rfl (kx_dd d_Tc_vote 40 rfl) (Nat.le_refl _) (Nat.le_refl _) ?_
        dsimp only
        exact DkQ.of (by unfold votR; rw [if_pos e9, nI_clamp (by omega), if_pos c38, if_neg (fun z => bP_0.mp c68 z.1)]) ho hp hF9
      · refine kx_iload_n (pc := 71) (kx_dd d_Tc_vote 34 rfl) rfl rfl ?_
        refine kx_iconst (pc := 72) (v := 0) (kx_dd d_Tc_vote 35 rfl) rfl ?_
        refine kx_iload (pc := 73) (kx_dd d_Tc_vote 36 rfl) rfl ?_
        refine kx_invS (pc := 75) (as := [_, _, _]) (kx_dd d_Tc_vote 37 rfl) ⟨lk_Tc_90, wt_Tc_within⟩ w_Tc_within rfl rfl (Nat.le_of_ble_eq_true rfl) (x_Tc_within (d := d + 5) c 0 _) (Nat.le_refl _) ⟨Nat.le_refl _, Nat.le_refl _⟩ (fun v h' hq => ?_)
        obtain ⟨rfl, he⟩ := hq
        rw [he]
        clear he
        refine kx_if_ne (pc := 78) (tgt := 84) (kx_dd d_Tc_vote 38 rfl) rfl (fun c78 => ?_) (fun c78 => ?_)
        · have c68 := (bP_ti _).mp c68
          have c78 := (bP_ti _).mp c78
          have hdu := dueF_le ho (r := V u) (td := td) ha9
          obtain ⟨b9, hb9, hb8, rfl⟩ := valU (by omega) c68
          obtain ⟨c9, hc9, hc8, rfl⟩ := valU (by omega) c78
          have e6 : h1.1 (AV u + 1) 6 = nI (rsN (V u) 6) := ((hV.2.2 u hu).2.2.2.2.1.1 6 (by decide)).trans (hse.1 6 (by decide) (by decide))
          have r6 := hse.2.2.2.2.1
          refine kx_aload (pc := 84) (kx_dd d_Tc_vote 41 rfl) rfl ?_
          refine kx_getR (pc := 86) (b := (AV u + 1)) fl_Tc_246 (congrArg Prod.fst (IsRu.of hs (hV.2.2 u hu).2.1).1) rfl (IsRu.of hs (hV.2.2 u hu).2.1).2.2.2.2.2.2.2.2.2.1 (kx_dd d_Tc_vote 42 rfl) ?_
          refine kx_bipush (pc := 89) (v := 6) (kx_dd d_Tc_vote 43 rfl) rfl ?_
          refine kx_ialdn (pc := 91) 6 ((IsRu.of hs (hV.2.2 u hu).2.1).2.1) rfl (by decide) (by decide) (kx_dd d_Tc_vote 44 rfl) ?_
          rw [e6]
          refine kx_istore_e (pc := 92) (lv' := [_, _, _, _, _, _, _, _]) (kx_dd d_Tc_vote 45 rfl) (Nat.le_of_ble_eq_true rfl) rfl ?_
          refine kx_iload_n (pc := 94) (kx_dd d_Tc_vote 46 rfl) rfl rfl ?_
          refine kx_iload_n (pc := 95) (kx_dd d_Tc_vote 47 rfl) rfl rfl ?_
          refine kx_icmp_eq (pc := 96) (tgt := 115) (kx_dd d_Tc_vote 48 rfl) rfl (fun c96 => ?_) (fun c96 => ?_)
          · refine kx_aload_n (pc := 115) (kx_dd d_Tc_vote 57 rfl) rfl rfl ?_
            refine kx_getR (pc := 116) (b := 39) fl_Tc_57 (hs.k 0 rfl) rfl (hs.r 6 rfl) (kx_dd d_Tc_vote 58 rfl) ?_
            refine kx_aload (pc := 119) (kx_dd d_Tc_vote 59 rfl) rfl ?_
            refine kx_iload (pc := 121) (kx_dd d_Tc_vote 60 rfl) rfl ?_
            refine kx_if_ne (pc := 123) (tgt := 134) (kx_dd d_Tc_vote 61 rfl) rfl (fun c123 => ?_) (fun c123 => ?_)
            · refine kx_iload_n (pc := 134) (kx_dd d_Tc_vote 66 rfl) rfl rfl ?_
              refine kx_iload_n (pc := 135) (kx_dd d_Tc_vote 67 rfl) rfl rfl ?_
              refine kx_iadd (pc := 136) (kx_dd d_Tc_vote 68 rfl) ?_
              refine kx_iconst (pc := 137) (v := 2) (kx_dd d_Tc_vote 69 rfl) rfl ?_
              refine kx_idiv (pc := 138) (kx_dd d_Tc_vote 70 rfl) (by decide) ?_
              have hsu : votS (V u) b9 c9 ≤ 999999 := Nat.le_trans (votS_le hb9 hc9) hdu
              rw [nI_z (by omega)] at c123
              rw [nI_add, show (2 : Int32) = nI 2 from rfl, pk_div (by omega) (by decide) (by decide)]
              rw [show (b9 + c9) / 2 = votS (V u) b9 c9 from by unfold votS; rw [if_neg c123]]
              refine kx_iload (pc := 139) (kx_dd d_Tc_vote 71 rfl) rfl ?_
              refine kx_aload (pc := 141) (kx_dd d_Tc_vote 72 rfl) rfl ?_
              refine kx_aload_n (pc := 143) (kx_dd d_Tc_vote 73 rfl) rfl rfl ?_
              refine kx_getI (pc := 144) fl_Tc_94 (hs.k 0 rfl) rfl (kx_dd d_Tc_vote 74 rfl) ?_
              rw [hck]
              refine kx_invV (pc := 147) (a := 39) (as := [_, _, _, _, _]) (kx_dd d_Tc_vote 75 rfl) ⟨lk_Tc_259, wi_Do_decide, we_Do_decide⟩ w_Do_decide (hs.k 39 rfl) rfl rfl rfl rfl (Nat.le_of_ble_eq_true rfl) (x_Do_decide (d := d) hs D A ho hp (AV u) (hV.2.2 u hu).2.1 (V u) (hV.2.2 u hu).2.2.2.1 hse (hV.2.2 u hu).2.2.2.2.1 a9 ha9 td htd (hfi a9 ha9) (votS (V u) b9 c9) hsu (by omega) (dueF D (V u) td a9) hdu) (Nat.le_refl _) ⟨Nat.le_refl _, Nat.le_refl _⟩ (fun v h' hq => ?_)
              revert h'
              intro h2 hq
              obtain ⟨rfl, hp2, hf2⟩ := hq
              have hs : SC h2 := hs.fc hf2
              have hp := hp2
              refine kx_aload (pc := 150) (kx_dd d_Tc_vote 76 rfl) rfl ?_
              refine kx_getI (pc := 152) fl_Tc_239 (congrArg Prod.fst (hp.2.2.2.2.1.2 a9 ha9).2.2.1) rfl (kx_dd d_Tc_vote 77 rfl) ?_
              refine kx_iret (pc := 155) rfl (kx_dd d_Tc_vote 78 rfl) (Nat.le_refl _) (Nat.le_refl _) ?_
              have e9v : h2.1 (A.1 a9) 8 = 2 := ((hp2.2.2.2.2.1.2 a9 ha9).2.2.2.1 8 (by decide) (by decide)).trans (by show decF _ _ _ _ _ _ _ _ _ = 2; simp [decF])
              rw [e9v]
              dsimp only
              exact DkQ.of (by unfold votR; rw [if_pos e9, nI_clamp (by omega), nI_clamp (by omega), nI_clamp (by omega), if_pos c38, if_pos ⟨c68, c78⟩, if_neg (fun z => z.1 c96)]) (ho.dec hse hsu htd hdu) hp2 (hF9.tr (hf2.mono (fun a j z => Or.inr (by have := (hp.2.2.2.2.1.2 a9 ha9).1; omega))))
            · refine kx_iload_n (pc := 126) (kx_dd d_Tc_vote 62 rfl) rfl rfl ?_
              refine kx_iload_n (pc := 127) (kx_dd d_Tc_vote 63 rfl) rfl rfl ?_
              refine kx_mmin (pc := 128) mk_Tc_254 (kx_dd d_Tc_vote 64 rfl) (Nat.le_of_ble_eq_true rfl) (Nat.le_of_ble_eq_true rfl) (Nat.le_refl _) (Nat.le_refl _) ?_
              refine kx_goto (pc := 131) (tgt := 139) (kx_dd d_Tc_vote 65 rfl) rfl ?_
              have hsu : votS (V u) b9 c9 ≤ 999999 := Nat.le_trans (votS_le hb9 hc9) hdu
              rw [nI_z (by omega)] at c123
              rw [minI (by omega) (by omega)]
              rw [show (if c9 < b9 then c9 else b9) = votS (V u) b9 c9 from by unfold votS; rw [if_pos c123]]
              refine kx_iload (pc := 139) (kx_dd d_Tc_vote 71 rfl) rfl ?_
              refine kx_aload (pc := 141) (kx_dd d_Tc_vote 72 rfl) rfl ?_
              refine kx_aload_n (pc := 143) (kx_dd d_Tc_vote 73 rfl) rfl rfl ?_
              refine kx_getI (pc := 144) fl_Tc_94 (hs.k 0 rfl) rfl (kx_dd d_Tc_vote 74 rfl) ?_
              rw [hck]
              refine kx_invV (pc := 147) (a := 39) (as := [_, _, _, _, _]) (kx_dd d_Tc_vote 75 rfl) ⟨lk_Tc_259, wi_Do_decide, we_Do_decide⟩ w_Do_decide (hs.k 39 rfl) rfl rfl rfl rfl (Nat.le_of_ble_eq_true rfl) (x_Do_decide (d := d) hs D A ho hp (AV u) (hV.2.2 u hu).2.1 (V u) (hV.2.2 u hu).2.2.2.1 hse (hV.2.2 u hu).2.2.2.2.1 a9 ha9 td htd (hfi a9 ha9) (votS (V u) b9 c9) hsu (by omega) (dueF D (V u) td a9) hdu) (Nat.le_refl _) ⟨Nat.le_refl _, Nat.le_refl _⟩ (fun v h' hq => ?_)
              revert h'
              intro h2 hq
              obtain ⟨rfl, hp2, hf2⟩ := hq
              have hs : SC h2 := hs.fc hf2
              have hp := hp2
              refine kx_aload (pc := 150) (kx_dd d_Tc_vote 76 rfl) rfl ?_
              refine kx_getI (pc := 152) fl_Tc_239 (congrArg Prod.fst (hp.2.2.2.2.1.2 a9 ha9).2.2.1) rfl (kx_dd d_Tc_vote 77 rfl) ?_
              refine kx_iret (pc := 155) rfl (kx_dd d_Tc_vote 78 rfl) (Nat.le_refl _) (Nat.le_refl _) ?_
              have e9v : h2.1 (A.1 a9) 8 = 2 := ((hp2.2.2.2.2.1.2 a9 ha9).2.2.2.1 8 (by decide) (by decide)).trans (by show decF _ _ _ _ _ _ _ _ _ = 2; simp [decF])
              rw [e9v]
              dsimp only
              exact DkQ.of (by unfold votR; rw [if_pos e9, nI_clamp (by omega), nI_clamp (by omega), nI_clamp (by omega), if_pos c38, if_pos ⟨c68, c78⟩, if_neg (fun z => z.1 c96)]) (ho.dec hse hsu htd hdu) hp2 (hF9.tr (hf2.mono (fun a j z => Or.inr (by have := (hp.2.2.2.2.1.2 a9 ha9).1; omega))))
          · refine kx_iload (pc := 99) (kx_dd d_Tc_vote 49 rfl) rfl ?_
            refine kx_iconst (pc := 101) (v := 2) (kx_dd d_Tc_vote 50 rfl) rfl ?_
            refine kx_icmp_ne (pc := 102) (tgt := 115) (kx_dd d_Tc_vote 51 rfl) rfl (fun c102 => ?_) (fun c102 => ?_)
            · refine kx_aload_n (pc := 115) (kx_dd d_Tc_vote 57 rfl) rfl rfl ?_
              refine kx_getR (pc := 116) (b := 39) fl_Tc_57 (hs.k 0 rfl) rfl (hs.r 6 rfl) (kx_dd d_Tc_vote 58 rfl) ?_
              refine kx_aload (pc := 119) (kx_dd d_Tc_vote 59 rfl) rfl ?_
              refine kx_iload (pc := 121) (kx_dd d_Tc_vote 60 rfl) rfl ?_
              refine kx_if_ne (pc := 123) (tgt := 134) (kx_dd d_Tc_vote 61 rfl) rfl (fun c123 => ?_) (fun c123 => ?_)
              · refine kx_iload_n (pc := 134) (kx_dd d_Tc_vote 66 rfl) rfl rfl ?_
                refine kx_iload_n (pc := 135) (kx_dd d_Tc_vote 67 rfl) rfl rfl ?_
                refine kx_iadd (pc := 136) (kx_dd d_Tc_vote 68 rfl) ?_
                refine kx_iconst (pc := 137) (v := 2) (kx_dd d_Tc_vote 69 rfl) rfl ?_
                refine kx_idiv (pc := 138) (kx_dd d_Tc_vote 70 rfl) (by decide) ?_
                have hsu : votS (V u) b9 c9 ≤ 999999 := Nat.le_trans (votS_le hb9 hc9) hdu
                rw [nI_z (by omega)] at c123
                rw [nI_add, show (2 : Int32) = nI 2 from rfl, pk_div (by omega) (by decide) (by decide)]
                rw [show (b9 + c9) / 2 = votS (V u) b9 c9 from by unfold votS; rw [if_neg c123]]
                refine kx_iload (pc := 139) (kx_dd d_Tc_vote 71 rfl) rfl ?_
                refine kx_aload (pc := 141) (kx_dd d_Tc_vote 72 rfl) rfl ?_
                refine kx_aload_n (pc := 143) (kx_dd d_Tc_vote 73 rfl) rfl rfl ?_
                refine kx_getI (pc := 144) fl_Tc_94 (hs.k 0 rfl) rfl (kx_dd d_Tc_vote 74 rfl) ?_
                rw [hck]
                refine kx_invV (pc := 147) (a := 39) (as := [_, _, _, _, _]) (kx_dd d_Tc_vote 75 rfl) ⟨lk_Tc_259, wi_Do_decide, we_Do_decide⟩ w_Do_decide (hs.k 39 rfl) rfl rfl rfl rfl (Nat.le_of_ble_eq_true rfl) (x_Do_decide (d := d) hs D A ho hp (AV u) (hV.2.2 u hu).2.1 (V u) (hV.2.2 u hu).2.2.2.1 hse (hV.2.2 u hu).2.2.2.2.1 a9 ha9 td htd (hfi a9 ha9) (votS (V u) b9 c9) hsu (by omega) (dueF D (V u) td a9) hdu) (Nat.le_refl _) ⟨Nat.le_refl _, Nat.le_refl _⟩ (fun v h' hq => ?_)
                revert h'
                intro h2 hq
                obtain ⟨rfl, hp2, hf2⟩ := hq
                have hs : SC h2 := hs.fc hf2
                have hp := hp2
                refine kx_aload (pc := 150) (kx_dd d_Tc_vote 76 rfl) rfl ?_
                refine kx_getI (pc := 152) fl_Tc_239 (congrArg Prod.fst (hp.2.2.2.2.1.2 a9 ha9).2.2.1) rfl (kx_dd d_Tc_vote 77 rfl) ?_
                refine kx_iret (pc := 155) rfl (kx_dd d_Tc_vote 78 rfl) (Nat.le_refl _) (Nat.le_refl _) ?_
                rw [show (2 : Int32) = nI 2 from rfl, nI_eq (by omega) (by decide)] at c102
                have e9v : h2.1 (A.1 a9) 8 = 2 := ((hp2.2.2.2.2.1.2 a9 ha9).2.2.2.1 8 (by decide) (by decide)).trans (by show decF _ _ _ _ _ _ _ _ _ = 2; simp [decF])
                rw [e9v]
                dsimp only
                exact DkQ.of (by unfold votR; rw [if_pos e9, nI_clamp (by omega), nI_clamp (by omega), nI_clamp (by omega), if_pos c38, if_pos ⟨c68, c78⟩, if_neg (fun z => c102 z.2)]) (ho.dec hse hsu htd hdu) hp2 (hF9.tr (hf2.mono (fun a j z => Or.inr (by have := (hp.2.2.2.2.1.2 a9 ha9).1; omega))))
              · refine kx_iload_n (pc := 126) (kx_dd d_Tc_vote 62 rfl) rfl rfl ?_
                refine kx_iload_n (pc := 127) (kx_dd d_Tc_vote 63 rfl) rfl rfl ?_
                refine kx_mmin (pc := 128) mk_Tc_254 (kx_dd d_Tc_vote 64 rfl) (Nat.le_of_ble_eq_true rfl) (Nat.le_of_ble_eq_true rfl) (Nat.le_refl _) (Nat.le_refl _) ?_
                refine kx_goto (pc := 131) (tgt := 139) (kx_dd d_Tc_vote 65 rfl) rfl ?_
                have hsu : votS (V u) b9 c9 ≤ 999999 := Nat.le_trans (votS_le hb9 hc9) hdu
                rw [nI_z (by omega)] at c123
                rw [minI (by omega) (by omega)]
                rw [show (if c9 < b9 then c9 else b9) = votS (V u) b9 c9 from by unfold votS; rw [if_pos c123]]
                refine kx_iload (pc := 139) (kx_dd d_Tc_vote 71 rfl) rfl ?_
                refine kx_aload (pc := 141) (kx_dd d_Tc_vote 72 rfl) rfl ?_
                refine kx_aload_n (pc := 143) (kx_dd d_Tc_vote 73 rfl) rfl rfl ?_
                refine kx_getI (pc := 144) fl_Tc_94 (hs.k 0 rfl) rfl (kx_dd d_Tc_vote 74 rfl) ?_
                rw [hck]
                refine kx_invV (pc := 147) (a := 39) (as := [_, _, _, _, _]) (kx_dd d_Tc_vote 75 rfl) ⟨lk_Tc_259, wi_Do_decide, we_Do_decide⟩ w_Do_decide (hs.k 39 rfl) rfl rfl rfl rfl (Nat.le_of_ble_eq_true rfl) (x_Do_decide (d := d) hs D A ho hp (AV u) (hV.2.2 u hu).2.1 (V u) (hV.2.2 u hu).2.2.2.1 hse (hV.2.2 u hu).2.2.2.2.1 a9 ha9 td htd (hfi a9 ha9) (votS (V u) b9 c9) hsu (by omega) (dueF D (V u) td a9) hdu) (Nat.le_refl _) ⟨Nat.le_refl _, Nat.le_refl _⟩ (fun v h' hq => ?_)
                revert h'
                intro h2 hq
                obtain ⟨rfl, hp2, hf2⟩ := hq
                have hs : SC h2 := hs.fc hf2
                have hp := hp2
                refine kx_aload (pc := 150) (kx_dd d_Tc_vote 76 rfl) rfl ?_
                refine kx_getI (pc := 152) fl_Tc_239 (congrArg Prod.fst (hp.2.2.2.2.1.2 a9 ha9).2.2.1) rfl (kx_dd d_Tc_vote 77 rfl) ?_
                refine kx_iret (pc := 155) rfl (kx_dd d_Tc_vote 78 rfl) (Nat.le_refl _) (Nat.le_refl _) ?_
                rw [show (2 : Int32) = nI 2 from rfl, nI_eq (by omega) (by decide)] at c102
                have e9v : h2.1 (A.1 a9) 8 = 2 := ((hp2.2.2.2.2.1.2 a9 ha9).2.2.2.1 8 (by decide) (by decide)).trans (by show decF _ _ _ _ _ _ _ _ _ = 2; simp [decF])
                rw [e9v]
                dsimp only
                exact DkQ.of (by unfold votR; rw [if_pos e9, nI_clamp (by omega), nI_clamp (by omega), nI_clamp (by omega), if_pos c38, if_pos ⟨c68, c78⟩, if_neg (fun z => c102 z.2)]) (ho.dec hse hsu htd hdu) hp2 (hF9.tr (hf2.mono (fun a j z => Or.inr (by have := (hp.2.2.2.2.1.2 a9 ha9).1; omega))))
            · refine kx_aload (pc := 105) (kx_dd d_Tc_vote 52 rfl) rfl ?_
              refine kx_iload_n (pc := 107) (kx_dd d_Tc_vote 53 rfl) rfl rfl ?_
              refine kx_iload_n (pc := 108) (kx_dd d_Tc_vote 54 rfl) rfl rfl ?_
              refine kx_invV (pc := 109) (a := (A.1 a9)) (as := [_, _]) (kx_dd d_Tc_vote 55 rfl) ⟨lk_Tc_250, wi_Cl_divide, we_Cl_divide⟩ w_Cl_divide (congrArg Prod.fst (hp.2.2.2.2.1.2 a9 ha9).2.2.1) rfl rfl rfl rfl (Nat.le_of_ble_eq_true rfl) (x_Cl_divide (d := d + 5) hs D A ho hp a9 ha9 _ _) (Nat.le_refl _) ⟨Nat.le_refl _, Nat.le_refl _⟩ (fun v h' hq => ?_)
              obtain ⟨rfl, he⟩ := hq
              rw [he]
              clear he
              refine kx_goto (pc := 112) (tgt := 150) (kx_dd d_Tc_vote 56 rfl) rfl ?_
              refine kx_aload (pc := 150) (kx_dd d_Tc_vote 76 rfl) rfl ?_
              refine kx_getI (pc := 152) fl_Tc_239 (congrArg Prod.fst (hp.2.2.2.2.1.2 a9 ha9).2.2.1) rfl (kx_dd d_Tc_vote 77 rfl) ?_
              refine kx_iret (pc := 155) rfl (kx_dd d_Tc_vote 78 rfl) (Nat.le_refl _) (Nat.le_refl _) ?_
              rw [show (2 : Int32) = nI 2 from rfl, nI_eq (by omega) (by decide)] at c102
              have e9v : (kx_setI (kx_setI (kx_setI h1 (A.1 a9) 8 1) (A.1 a9) 13 (nI b9)) (A.1 a9) 14 (nI c9)).1 (A.1 a9) 8 = 1 := by rw [setI_ne (Or.inr (by decide)), setI_ne (Or.inr (by decide)), setI_at]
              rw [e9v]
              have hA : 154 ≤ A.1 a9 := (hp.2.2.2.2.1.2 a9 ha9).1
              dsimp only
              exact DkQ.of (by unfold votR; rw [if_pos e9, nI_clamp (by omega), if_pos c38, if_pos ⟨c68, c78⟩, if_pos ⟨c96, c102⟩]) (splD_ok ho (by omega) (by omega)) (((hp.s (1 : Int32) ha9).s (nI b9) ha9).s (nI c9) ha9) (((hF9.tr (kx_Fc.set (Or.inr hA))).tr (kx_Fc.set (Or.inr hA))).tr (kx_Fc.set (Or.inr hA)))
        · refine kx_bipush (pc := 81) (v := -2) (kx_dd d_Tc_vote 39 rfl) rfl ?_
          refine kx_iret (pc := 83) rfl (kx_dd d_Tc_vote 40 rfl) (Nat.le_refl _) (Nat.le_refl _) ?_
          dsimp only
          exact DkQ.of (by unfold votR; rw [if_pos e9, nI_clamp (by omega), if_pos c38, if_neg (fun z => bP_0.mp c78 z.2)]) ho hp hF9
    · refine kx_bipush (pc := 41) (v := -4) (kx_dd d_Tc_vote 19 rfl) rfl ?_
      refine kx_iret (pc := 43) rfl (kx_dd d_Tc_vote 20 rfl) (Nat.le_refl _) (Nat.le_refl _) ?_
      rw [e1, nI_z (by omega)] at c38
      dsimp only
      exact DkQ.of (by unfold votR; rw [if_pos e9, nI_clamp (by omega), if_neg c38]) ho hp kx_Fc.rf
  · skip
    refine kx_enter_e (lv := [_, _, _, _, _, _, _, _]) (by decide +kernel) (Nat.le_of_ble_eq_true rfl) rfl ?_
    refine kx_aload_n (pc := 0) (kx_dd d_Tc_vote 0 rfl) rfl rfl ?_
    refine kx_getR (pc := 1) (b := 39) fl_Tc_57 (hs.k 0 rfl) rfl (hs.r 6 rfl) (kx_dd d_Tc_vote 1 rfl) ?_
    refine kx_iload_n (pc := 4) (kx_dd d_Tc_vote 2 rfl) rfl rfl ?_
    refine kx_invV (pc := 5) (a := 39) (as := [_]) (kx_dd d_Tc_vote 3 rfl) ⟨lk_Tc_190, wi_Do_claimAt, we_Do_claimAt⟩ w_Do_claimAt (hs.k 39 rfl) rfl rfl rfl rfl (Nat.le_of_ble_eq_true rfl) (x_Do_claimAtN (d := d + 4) hs D A ho hp a e9) (Nat.le_refl _) ⟨Nat.le_refl _, Nat.le_refl _⟩ (fun v h' hq => ?_)
    obtain ⟨rfl, he⟩ := hq
    rw [he]
    clear he
    refine kx_astore_eN (pc := 8) (lv' := [_, _, _, _, _, _, _, _]) (kx_dd d_Tc_vote 4 rfl) (Nat.le_of_ble_eq_true rfl) rfl ?_
    refine kx_aload_n (pc := 10) (kx_dd d_Tc_vote 5 rfl) rfl rfl ?_
    refine kx_aload_n (pc := 11) (kx_dd d_Tc_vote 6 rfl) rfl rfl ?_
    refine kx_getI (pc := 12) fl_Tc_148 (hs.k 0 rfl) rfl (kx_dd d_Tc_vote 7 rfl) ?_
    rw [hif]
    refine kx_invV (pc := 15) (a := 0) (as := [_]) (kx_dd d_Tc_vote 8 rfl) ⟨lk_Tc_151, wi_Tc_versionAt, we_Tc_versionAt⟩ w_Tc_versionAt (hs.k 0 rfl) rfl rfl rfl rfl (Nat.le_of_ble_eq_true rfl) (x_Tc_versionV (d := d + 4) hs AV DV V hV u hu) (Nat.le_refl _) ⟨Nat.le_refl _, Nat.le_refl _⟩ (fun v h' hq => ?_)
    obtain ⟨rfl, he⟩ := hq
    rw [he]
    clear he
    refine kx_astore_e (pc := 18) (lv' := [_, _, _, _, _, _, _, _]) (kx_dd d_Tc_vote 9 rfl) (Nat.le_of_ble_eq_true rfl) rfl ?_
    refine kx_aloadN (pc := 20) (kx_dd d_Tc_vote 10 rfl) rfl ?_
    refine kx_ifnullN (pc := 22) (tgt := 30) (kx_dd d_Tc_vote 11 rfl) rfl ?_
    refine kx_bipush (pc := 30) (v := -2) (kx_dd d_Tc_vote 14 rfl) rfl ?_
    refine kx_iret (pc := 32) rfl (kx_dd d_Tc_vote 15 rfl) (Nat.le_refl _) (Nat.le_refl _) ?_
    dsimp only
    exact DkQ.of (if_neg e9) ho hp kx_Fc.rf
theorem y_vote {l : Launch} {g : kx_G} {d : Nat} {h : kx_Mem} (hm : SM h) (nw : Nat) (T : Nat → Nat) (hwt : WTok nw T) (D : DK) (ho : DKok D) (hp : DKm D nw T h) (r : RU) (u : Nat) (hu : u < 4) (hro : RUok r) (hse : RSet r) (hrp : RUm r u nw T h) (hif : h.1 84 31 = nI u) (td : Nat) (htd : td ≤ 1999) (hck : h.1 84 36 = nI td) (hfi : ∀ c, c < D.2.2.1.1 → cN D.2.2.1 c 5 ≤ td) (a b c : Int32) : kx_Sp l g m_Mo_vote [.ref 84, .int a, .int b, .int c] h (d + 8) 0 0 (fun v h' => DkQ (votR D r td a b c) (fun D h => DKm D nw T h) (FvM D.2.2.1.1) h v h') := by
  have o1 := ho.2.2.1.1
  refine kx_enter_e (lv := [_, _, _, _, _, _]) (by decide +kernel) (Nat.le_of_ble_eq_true rfl) rfl ?_
  refine kx_aload_n (pc := 0) (kx_dd d_Mo_vote 0 rfl) rfl rfl ?_
  refine kx_iload_n (pc := 1) (kx_dd d_Mo_vote 1 rfl) rfl rfl ?_
  refine kx_invV (pc := 2) (a := 84) (as := [_]) (kx_dd d_Mo_vote 2 rfl) ⟨lk_Mo_520, wi_Mo_isClaim, we_Mo_isClaim⟩ w_Mo_isClaim (hm.k 0 rfl) rfl rfl rfl rfl (Nat.le_of_ble_eq_true rfl) (y_isClaim (d := d + 6) hm nw T hwt D ho hp a) (Nat.le_refl _) ⟨Nat.le_refl _, Nat.le_refl _⟩ (fun v h' hq => ?_)
  obtain ⟨rfl, he⟩ := hq
  rw [he]
  clear he
  refine kx_if_ne (pc := 5) (tgt := 11) (kx_dd d_Mo_vote 3 rfl) rfl (fun c5 => ?_) (fun c5 => ?_)
  · have c5 := (bP_ti _).mp c5
    obtain ⟨a9, ha9, rfl⟩ := valP (n := D.2.2.1.1) (by omega) c5
    have e1 : h.1 130 a9 = nI (cN D.2.2.1 a9 8) := ((hp.2.2.1.2 a9 ha9).1 8 (by decide) (by decide) (by decide)).trans ((ho.2.2.1.2 a9 ha9).1 8 (by decide) (by decide) (by decide) (by decide))
    have b8 : cN D.2.2.1 a9 8 ≤ 3 := (ho.2.2.1.2 a9 ha9).2.2.2.2.2.2.2.2.2.1
    refine kx_aload_n (pc := 11) (kx_dd d_Mo_vote 6 rfl) rfl rfl ?_
    refine kx_getR (pc := 12) (b := 130) fl_Mo_348 (hm.k 0 rfl) rfl (hm.r 45 rfl) (kx_dd d_Mo_vote 7 rfl) ?_
    refine kx_iload_n (pc := 15) (kx_dd d_Mo_vote 8 rfl) rfl rfl ?_
    refine kx_ialdn (pc := 16) a9 (hm.t 46 rfl) rfl (by omega) (by decide) (kx_dd d_Mo_vote 9 rfl) ?_
    refine kx_if_eq (pc := 17) (tgt := 23) (kx_dd d_Mo_vote 10 rfl) rfl (fun c17 => ?_) (fun c17 => ?_)
    · rw [e1, nI_z (by omega)] at c17
      refine kx_aload_n (pc := 23) (kx_dd d_Mo_vote 13 rfl) rfl rfl ?_
      refine kx_iload_n (pc := 24) (kx_dd d_Mo_vote 14 rfl) rfl rfl ?_
      refine kx_invV (pc := 25) (a := 84) (as := [_]) (kx_dd d_Mo_vote 15 rfl) ⟨lk_Mo_564, wi_Mo_dueOf, we_Mo_dueOf⟩ w_Mo_dueOf (hm.k 0 rfl) rfl rfl rfl rfl (Nat.le_of_ble_eq_true rfl) (y_dueOf (d := d + 1) hm nw T hwt D ho hp r td u hu hro hrp hif hck (by omega) a9 ha9) (Nat.le_refl _) ⟨Nat.le_refl _, Nat.le_refl _⟩ (fun v h' hq => ?_)
      revert h'
      intro h1 hq
      obtain ⟨rfl, hf9⟩ := hq
      have hm : SM h1 := hm.fc hf9
      have hp : DKm D nw T h1 := hp.fd hf9
      have hrp : RUm r u nw T h1 := hrp.fd hf9
      have hif : h1.1 84 31 = nI u := by rw [hf9.2 84 31 (by unfold FdM FT; omega)]; exact hif
      have hck : h1.1 84 36 = nI td := by rw [hf9.2 84 36 (by unfold FdM FT; omega)]; exact hck
      have hF9 : kx_Fc (FvM D.2.2.1.1) h h1 := hf9.mono (fun a j z => Or.inl z)
      refine kx_istore_e (pc := 28) (lv' := [_, _, _, _, _, _]) (kx_dd d_Mo_vote 16 rfl) (Nat.le_of_ble_eq_true rfl) rfl ?_
      refine kx_iload_n (pc := 30) (kx_dd d_Mo_vote 17 rfl) rfl rfl ?_
      refine kx_i2l (pc := 31) (kx_dd d_Mo_vote 18 rfl) ?_
      refine kx_lconst (pc := 32) (v := 0) (kx_dd d_Mo_vote 19 rfl) rfl ?_
      refine kx_iload (pc := 33) (kx_dd d_Mo_vote 20 rfl) rfl ?_
      refine kx_i2l (pc := 35) (kx_dd d_Mo_vote 21 rfl) ?_
      refine kx_invS (pc := 36) (as := [_, _, _]) (kx_dd d_Mo_vote 22 rfl) ⟨lk_Mo_5, wt_Mo_in⟩ w_Mo_in rfl rfl (Nat.le_of_ble_eq_true rfl) (y_in (d := d + 7) _ _ _) (Nat.le_refl _) ⟨Nat.le_refl _, Nat.le_refl _⟩ (fun v h' hq => ?_)
      obtain ⟨rfl, he⟩ := hq
      rw [he]
      clear he
      refine kx_if_eq (pc := 39) (tgt := 54) (kx_dd d_Mo_vote 23 rfl) rfl (fun c39 => ?_) (fun c39 => ?_)
      · refine kx_bipush (pc := 54) (v := -2) (kx_dd d_Mo_vote 31 rfl) rfl ?_
        refine kx_iret (pc := 56) rfl (kx_dd d_Mo_vote 32 rfl) (Nat.le_refl _) (Nat.le_refl _) ?_
        have c39 := bP_0.mp c39
        rw [w_le0, w_le] at c39
        dsimp only
        exact DkQ.of (by unfold votR; rw [if_pos c5, nI_clamp (by omega), if_pos c17, if_neg (fun z => c39 z.1)]) ho hp hF9
      · refine kx_iload_n (pc := 42) (kx_dd d_Mo_vote 24 rfl) rfl rfl ?_
        refine kx_i2l (pc := 43) (kx_dd d_Mo_vote 25 rfl) ?_
        refine kx_lconst (pc := 44) (v := 0) (kx_dd d_Mo_vote 26 rfl) rfl ?_
        refine kx_iload (pc := 45) (kx_dd d_Mo_vote 27 rfl) rfl ?_
        refine kx_i2l (pc := 47) (kx_dd d_Mo_vote 28 rfl) ?_
        refine kx_invS (pc := 48) (as := [_, _, _]) (kx_dd d_Mo_vote 29 rfl) ⟨lk_Mo_5, wt_Mo_in⟩ w_Mo_in rfl rfl (Nat.le_of_ble_eq_true rfl) (y_in (d := d + 7) _ _ _) (Nat.le_refl _) ⟨Nat.le_refl _, Nat.le_refl _⟩ (fun v h' hq => ?_)
        obtain ⟨rfl, he⟩ := hq
        rw [he]
        clear he
        refine kx_if_ne (pc := 51) (tgt := 57) (kx_dd d_Mo_vote 30 rfl) rfl (fun c51 => ?_) (fun c51 => ?_)
        · have c39 := (bP_ti _).mp c39
          have c51 := (bP_ti _).mp c51
          rw [w_le0, w_le] at c39
          rw [w_le0, w_le] at c51
          have hdu := dueF_le ho (r := r) (td := td) ha9
          obtain ⟨b9, hb9, hb8, rfl⟩ := valU (by omega) c39
          obtain ⟨c9, hc9, hc8, rfl⟩ := valU (by omega) c51
          have e6 : h1.1 89 (11 * u + 6) = nI (rsN r 6) := (hrp.1 6 (by decide)).trans (hse.1 6 (by decide) (by decide))
          have r6 := hse.2.2.2.2.1
          refine kx_aload_n (pc := 57) (kx_dd d_Mo_vote 33 rfl) rfl rfl ?_
          refine kx_aload_n (pc := 58) (kx_dd d_Mo_vote 34 rfl) rfl rfl ?_
          refine kx_getI (pc := 59) fl_Mo_251 (hm.k 0 rfl) rfl (kx_dd d_Mo_vote 35 rfl) ?_
          refine kx_bipush (pc := 62) (v := 6) (kx_dd d_Mo_vote 36 rfl) rfl ?_
          rw [hif]
          refine kx_invV (pc := 64) (a := 84) (as := [_, _]) (kx_dd d_Mo_vote 37 rfl) ⟨lk_Mo_162, wi_Mo_ruleOf, we_Mo_ruleOf⟩ w_Mo_ruleOf (hm.k 0 rfl) rfl rfl rfl rfl (Nat.le_of_ble_eq_true rfl) (y_ruleOf (d := d + 7) hm u 6 (by omega) (by decide)) (Nat.le_refl _) ⟨Nat.le_refl _, Nat.le_refl _⟩ (fun v h' hq => ?_)
          obtain ⟨rfl, he⟩ := hq
          rw [he]
          clear he
          rw [e6]
          refine kx_istore_e (pc := 67) (lv' := [_, _, _, _, _, _]) (kx_dd d_Mo_vote 38 rfl) (Nat.le_of_ble_eq_true rfl) rfl ?_
          refine kx_iload_n (pc := 69) (kx_dd d_Mo_vote 39 rfl) rfl rfl ?_
          refine kx_iload_n (pc := 70) (kx_dd d_Mo_vote 40 rfl) rfl rfl ?_
          refine kx_icmp_eq (pc := 71) (tgt := 103) (kx_dd d_Mo_vote 41 rfl) rfl (fun c71 => ?_) (fun c71 => ?_)
          · refine kx_aload_n (pc := 103) (kx_dd d_Mo_vote 62 rfl) rfl rfl ?_
            refine kx_iload_n (pc := 104) (kx_dd d_Mo_vote 63 rfl) rfl rfl ?_
            refine kx_iload (pc := 105) (kx_dd d_Mo_vote 64 rfl) rfl ?_
            refine kx_if_ne (pc := 107) (tgt := 118) (kx_dd d_Mo_vote 65 rfl) rfl (fun c107 => ?_) (fun c107 => ?_)
            · refine kx_iload_n (pc := 118) (kx_dd d_Mo_vote 70 rfl) rfl rfl ?_
              refine kx_iload_n (pc := 119) (kx_dd d_Mo_vote 71 rfl) rfl rfl ?_
              refine kx_iadd (pc := 120) (kx_dd d_Mo_vote 72 rfl) ?_
              refine kx_iconst (pc := 121) (v := 2) (kx_dd d_Mo_vote 73 rfl) rfl ?_
              refine kx_idiv (pc := 122) (kx_dd d_Mo_vote 74 rfl) (by decide) ?_
              have hsu : votS r b9 c9 ≤ 999999 := Nat.le_trans (votS_le hb9 hc9) hdu
              rw [nI_z (by omega)] at c107
              rw [nI_add, show (2 : Int32) = nI 2 from rfl, pk_div (by omega) (by decide) (by decide)]
              rw [show (b9 + c9) / 2 = votS r b9 c9 from by unfold votS; rw [if_neg c107]]
              refine kx_invV (pc := 123) (a := 84) (as := [_, _]) (kx_dd d_Mo_vote 75 rfl) ⟨lk_Mo_576, wi_Mo_decide, we_Mo_decide⟩ w_Mo_decide (hm.k 0 rfl) rfl rfl rfl rfl (Nat.le_of_ble_eq_true rfl) (y_decide (d := d) hm nw T hwt D ho hp r td u hu hro hse hrp hif hck htd a9 ha9 (hfi a9 ha9) (votS r b9 c9) hsu (by omega)) (Nat.le_refl _) ⟨Nat.le_refl _, Nat.le_refl _⟩ (fun v h' hq => ?_)
              revert h'
              intro h2 hq
              obtain ⟨rfl, hp2, hf2⟩ := hq
              refine kx_iconst (pc := 126) (v := 2) (kx_dd d_Mo_vote 76 rfl) rfl ?_
              refine kx_iret (pc := 127) rfl (kx_dd d_Mo_vote 77 rfl) (Nat.le_refl _) (Nat.le_refl _) ?_
              dsimp only
              exact DkQ.of (by unfold votR; rw [if_pos c5, nI_clamp (by omega), nI_clamp (by omega), nI_clamp (by omega), if_pos c17, if_pos ⟨c39, c51⟩, if_neg (fun z => z.1 c71)]) (ho.dec hse hsu htd hdu) hp2 (hF9.tr (hf2.mono (fun a j z => z.elim Or.inl (fun y => Or.inr ⟨y.1, y.2.1, by have := y.2.2; omega⟩))))
            · refine kx_iload_n (pc := 110) (kx_dd d_Mo_vote 66 rfl) rfl rfl ?_
              refine kx_iload_n (pc := 111) (kx_dd d_Mo_vote 67 rfl) rfl rfl ?_
              refine kx_mmin (pc := 112) mk_Mo_489 (kx_dd d_Mo_vote 68 rfl) (Nat.le_of_ble_eq_true rfl) (Nat.le_of_ble_eq_true rfl) (Nat.le_refl _) (Nat.le_refl _) ?_
              refine kx_goto (pc := 115) (tgt := 123) (kx_dd d_Mo_vote 69 rfl) rfl ?_
              have hsu : votS r b9 c9 ≤ 999999 := Nat.le_trans (votS_le hb9 hc9) hdu
              rw [nI_z (by omega)] at c107
              rw [minI (by omega) (by omega)]
              rw [show (if c9 < b9 then c9 else b9) = votS r b9 c9 from by unfold votS; rw [if_pos c107]]
              refine kx_invV (pc := 123) (a := 84) (as := [_, _]) (kx_dd d_Mo_vote 75 rfl) ⟨lk_Mo_576, wi_Mo_decide, we_Mo_decide⟩ w_Mo_decide (hm.k 0 rfl) rfl rfl rfl rfl (Nat.le_of_ble_eq_true rfl) (y_decide (d := d) hm nw T hwt D ho hp r td u hu hro hse hrp hif hck htd a9 ha9 (hfi a9 ha9) (votS r b9 c9) hsu (by omega)) (Nat.le_refl _) ⟨Nat.le_refl _, Nat.le_refl _⟩ (fun v h' hq => ?_)
              revert h'
              intro h2 hq
              obtain ⟨rfl, hp2, hf2⟩ := hq
              refine kx_iconst (pc := 126) (v := 2) (kx_dd d_Mo_vote 76 rfl) rfl ?_
              refine kx_iret (pc := 127) rfl (kx_dd d_Mo_vote 77 rfl) (Nat.le_refl _) (Nat.le_refl _) ?_
              dsimp only
              exact DkQ.of (by unfold votR; rw [if_pos c5, nI_clamp (by omega), nI_clamp (by omega), nI_clamp (by omega), if_pos c17, if_pos ⟨c39, c51⟩, if_neg (fun z => z.1 c71)]) (ho.dec hse hsu htd hdu) hp2 (hF9.tr (hf2.mono (fun a j z => z.elim Or.inl (fun y => Or.inr ⟨y.1, y.2.1, by have := y.2.2; omega⟩))))
          · refine kx_iload (pc := 74) (kx_dd d_Mo_vote 42 rfl) rfl ?_
            refine kx_iconst (pc := 76) (v := 2) (kx_dd d_Mo_vote 43 rfl) rfl ?_
            refine kx_icmp_ne (pc := 77) (tgt := 103) (kx_dd d_Mo_vote 44 rfl) rfl (fun c77 => ?_) (fun c77 => ?_)
            · refine kx_aload_n (pc := 103) (kx_dd d_Mo_vote 62 rfl) rfl rfl ?_
              refine kx_iload_n (pc := 104) (kx_dd d_Mo_vote 63 rfl) rfl rfl ?_
              refine kx_iload (pc := 105) (kx_dd d_Mo_vote 64 rfl) rfl ?_
              refine kx_if_ne (pc := 107) (tgt := 118) (kx_dd d_Mo_vote 65 rfl) rfl (fun c107 => ?_) (fun c107 => ?_)
              · refine kx_iload_n (pc := 118) (kx_dd d_Mo_vote 70 rfl) rfl rfl ?_
                refine kx_iload_n (pc := 119) (kx_dd d_Mo_vote 71 rfl) rfl rfl ?_
                refine kx_iadd (pc := 120) (kx_dd d_Mo_vote 72 rfl) ?_
                refine kx_iconst (pc := 121) (v := 2) (kx_dd d_Mo_vote 73 rfl) rfl ?_
                refine kx_idiv (pc := 122) (kx_dd d_Mo_vote 74 rfl) (by decide) ?_
                have hsu : votS r b9 c9 ≤ 999999 := Nat.le_trans (votS_le hb9 hc9) hdu
                rw [nI_z (by omega)] at c107
                rw [nI_add, show (2 : Int32) = nI 2 from rfl, pk_div (by omega) (by decide) (by decide)]
                rw [show (b9 + c9) / 2 = votS r b9 c9 from by unfold votS; rw [if_neg c107]]
                refine kx_invV (pc := 123) (a := 84) (as := [_, _]) (kx_dd d_Mo_vote 75 rfl) ⟨lk_Mo_576, wi_Mo_decide, we_Mo_decide⟩ w_Mo_decide (hm.k 0 rfl) rfl rfl rfl rfl (Nat.le_of_ble_eq_true rfl) (y_decide (d := d) hm nw T hwt D ho hp r td u hu hro hse hrp hif hck htd a9 ha9 (hfi a9 ha9) (votS r b9 c9) hsu (by omega)) (Nat.le_refl _) ⟨Nat.le_refl _, Nat.le_refl _⟩ (fun v h' hq => ?_)
                revert h'
                intro h2 hq
                obtain ⟨rfl, hp2, hf2⟩ := hq
                refine kx_iconst (pc := 126) (v := 2) (kx_dd d_Mo_vote 76 rfl) rfl ?_
                refine kx_iret (pc := 127) rfl (kx_dd d_Mo_vote 77 rfl) (Nat.le_refl _) (Nat.le_refl _) ?_
                rw [show (2 : Int32) = nI 2 from rfl, nI_eq (by omega) (by decide)] at c77
                dsimp only
                exact DkQ.of (by unfold votR; rw [if_pos c5, nI_clamp (by omega), nI_clamp (by omega), nI_clamp (by omega), if_pos c17, if_pos ⟨c39, c51⟩, if_neg (fun z => c77 z.2)]) (ho.dec hse hsu htd hdu) hp2 (hF9.tr (hf2.mono (fun a j z => z.elim Or.inl (fun y => Or.inr ⟨y.1, y.2.1, by have := y.2.2; omega⟩))))
              · refine kx_iload_n (pc := 110) (kx_dd d_Mo_vote 66 rfl) rfl rfl ?_
                refine kx_iload_n (pc := 111) (kx_dd d_Mo_vote 67 rfl) rfl rfl ?_
                refine kx_mmin (pc := 112) mk_Mo_489 (kx_dd d_Mo_vote 68 rfl) (Nat.le_of_ble_eq_true rfl) (Nat.le_of_ble_eq_true rfl) (Nat.le_refl _) (Nat.le_refl _) ?_
                refine kx_goto (pc := 115) (tgt := 123) (kx_dd d_Mo_vote 69 rfl) rfl ?_
                have hsu : votS r b9 c9 ≤ 999999 := Nat.le_trans (votS_le hb9 hc9) hdu
                rw [nI_z (by omega)] at c107
                rw [minI (by omega) (by omega)]
                rw [show (if c9 < b9 then c9 else b9) = votS r b9 c9 from by unfold votS; rw [if_pos c107]]
                refine kx_invV (pc := 123) (a := 84) (as := [_, _]) (kx_dd d_Mo_vote 75 rfl) ⟨lk_Mo_576, wi_Mo_decide, we_Mo_decide⟩ w_Mo_decide (hm.k 0 rfl) rfl rfl rfl rfl (Nat.le_of_ble_eq_true rfl) (y_decide (d := d) hm nw T hwt D ho hp r td u hu hro hse hrp hif hck htd a9 ha9 (hfi a9 ha9) (votS r b9 c9) hsu (by omega)) (Nat.le_refl _) ⟨Nat.le_refl _, Nat.le_refl _⟩ (fun v h' hq => ?_)
                revert h'
                intro h2 hq
                obtain ⟨rfl, hp2, hf2⟩ := hq
                refine kx_iconst (pc := 126) (v := 2) (kx_dd d_Mo_vote 76 rfl) rfl ?_
                refine kx_iret (pc := 127) rfl (kx_dd d_Mo_vote 77 rfl) (Nat.le_refl _) (Nat.le_refl _) ?_
                rw [show (2 : Int32) = nI 2 from rfl, nI_eq (by omega) (by decide)] at c77
                dsimp only
                exact DkQ.of (by unfold votR; rw [if_pos c5, nI_clamp (by omega), nI_clamp (by omega), nI_clamp (by omega), if_pos c17, if_pos ⟨c39, c51⟩, if_neg (fun z => c77 z.2)]) (ho.dec hse hsu htd hdu) hp2 (hF9.tr (hf2.mono (fun a j z => z.elim Or.inl (fun y => Or.inr ⟨y.1, y.2.1, by have := y.2.2; omega⟩))))
            · refine kx_aload_n (pc := 80) (kx_dd d_Mo_vote 45 rfl) rfl rfl ?_
              refine kx_getR (pc := 81) (b := 130) fl_Mo_348 (hm.k 0 rfl) rfl (hm.r 45 rfl) (kx_dd d_Mo_vote 46 rfl) ?_
              refine kx_iload_n (pc := 84) (kx_dd d_Mo_vote 47 rfl) rfl rfl ?_
              refine kx_iconst (pc := 85) (v := 1) (kx_dd d_Mo_vote 48 rfl) rfl ?_
              refine kx_iastn (pc := 86) a9 (hm.t 46 rfl) (by decide) rfl (by omega) (by decide) (kx_dd d_Mo_vote 49 rfl) ?_
              refine kx_aload_n (pc := 87) (kx_dd d_Mo_vote 50 rfl) rfl rfl ?_
              refine kx_getR (pc := 88) (b := 135) fl_Mo_363 (hm.k 0 rfl) rfl (hm.r 50 rfl) (kx_dd d_Mo_vote 51 rfl) ?_
              refine kx_iload_n (pc := 91) (kx_dd d_Mo_vote 52 rfl) rfl rfl ?_
              refine kx_iload_n (pc := 92) (kx_dd d_Mo_vote 53 rfl) rfl rfl ?_
              refine kx_iastn (pc := 93) a9 (hm.t 51 rfl) (by decide) rfl (by omega) (by decide) (kx_dd d_Mo_vote 54 rfl) ?_
              refine kx_aload_n (pc := 94) (kx_dd d_Mo_vote 55 rfl) rfl rfl ?_
              refine kx_getR (pc := 95) (b := 136) fl_Mo_366 (hm.k 0 rfl) rfl (hm.r 51 rfl) (kx_dd d_Mo_vote 56 rfl) ?_
              refine kx_iload_n (pc := 98) (kx_dd d_Mo_vote 57 rfl) rfl rfl ?_
              refine kx_iload_n (pc := 99) (kx_dd d_Mo_vote 58 rfl) rfl rfl ?_
              refine kx_iastn (pc := 100) a9 (hm.t 52 rfl) (by decide) rfl (by omega) (by decide) (kx_dd d_Mo_vote 59 rfl) ?_
              refine kx_iconst (pc := 101) (v := 1) (kx_dd d_Mo_vote 60 rfl) rfl ?_
              refine kx_iret (pc := 102) rfl (kx_dd d_Mo_vote 61 rfl) (Nat.le_refl _) (Nat.le_refl _) ?_
              rw [show (2 : Int32) = nI 2 from rfl, nI_eq (by omega) (by decide)] at c77
              dsimp only
              exact DkQ.of (by unfold votR; rw [if_pos c5, nI_clamp (by omega), if_pos c17, if_pos ⟨c39, c51⟩, if_pos ⟨c71, c77⟩]) (splD_ok ho (by omega) (by omega)) (((hp.set (j := 8) (v := (1 : Int32)) (by decide) (by decide)).set (j := 13) (v := nI b9) (by decide) (by decide)).set (j := 14) (v := nI c9) (by decide) (by decide)) (((hF9.tr (kx_Fc.set (Or.inr ⟨by decide, by decide, ha9⟩))).tr (kx_Fc.set (Or.inr ⟨by decide, by decide, ha9⟩))).tr (kx_Fc.set (Or.inr ⟨by decide, by decide, ha9⟩)))
        · refine kx_bipush (pc := 54) (v := -2) (kx_dd d_Mo_vote 31 rfl) rfl ?_
          refine kx_iret (pc := 56) rfl (kx_dd d_Mo_vote 32 rfl) (Nat.le_refl _) (Nat.le_refl _) ?_
          have c51 := bP_0.mp c51
          rw [w_le0, w_le] at c51
          dsimp only
          exact DkQ.of (by unfold votR; rw [if_pos c5, nI_clamp (by omega), if_pos c17, if_neg (fun z => c51 z.2)]) ho hp hF9
    · refine kx_bipush (pc := 20) (v := -4) (kx_dd d_Mo_vote 11 rfl) rfl ?_
      refine kx_iret (pc := 22) rfl (kx_dd d_Mo_vote 12 rfl) (Nat.le_refl _) (Nat.le_refl _) ?_
      rw [e1, nI_z (by omega)] at c17
      dsimp only
      exact DkQ.of (by unfold votR; rw [if_pos c5, nI_clamp (by omega), if_neg c17]) ho hp kx_Fc.rf
  · refine kx_bipush (pc := 8) (v := -2) (kx_dd d_Mo_vote 4 rfl) rfl ?_
    refine kx_iret (pc := 10) rfl (kx_dd d_Mo_vote 5 rfl) (Nat.le_refl _) (Nat.le_refl _) ?_
    dsimp only
    exact DkQ.of (if_neg (bP_0.mp c5)) ho hp kx_Fc.rf
