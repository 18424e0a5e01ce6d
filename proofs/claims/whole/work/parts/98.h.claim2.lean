/-! the class: claim, paper: the calls -/
theorem wn_C : Cond.instantiable "TreatyClaims$Claim" 18 ∈ kx_good ∧ Cond.initialized "TreatyClaims$Claim" ∈ kx_good := ⟨kx_in 812 (by decide +kernel) rfl, kx_in 24 (by decide +kernel) rfl⟩
theorem wn_P : Cond.instantiable "TreatyClaims$Paper" 5 ∈ kx_good ∧ Cond.initialized "TreatyClaims$Paper" ∈ kx_good := ⟨kx_in 990 (by decide +kernel) rfl, kx_in 29 (by decide +kernel) rfl⟩
theorem RSc.fgx {s : RS} {P L : Nat → Nat → Prop} {h h' : kx_Mem} (hp : RSc s h) (hf : kx_Fg P L h h') (hP : ∀ a j, (30 ≤ a ∧ a ≤ 33) → ¬ P a j) : RSc s h' := ⟨by rw [hf.1 30 0 (hP _ _ (by omega))]; exact hp.1, fun k hk => by rw [hf.1 31 k (hP _ _ (by omega)), hf.1 32 k (hP _ _ (by omega)), hf.1 33 k (hP _ _ (by omega))]; exact hp.2 k hk⟩
/-- a new object, its fields set: what was there stays -/
theorem kx_Gw.born {h h' : kx_Mem} {k : Nat} (hN : h.2.2.2.2 < 1000000) (q1 : h'.2.2.2 = (kx_new h k 0).2.2.2) (q2 : ∀ x j, x ≠ h.2.2.2.2 → h'.1 x j = (kx_new h k 0).1 x j ∧ h'.2.1 x j = (kx_new h k 0).2.1 x j ∧ h'.2.2.1 x j = (kx_new h k 0).2.2.1 x j) : kx_Gw (fun _ _ => False) (fun _ _ => False) (fun _ _ => False) h h' ∧ h'.2.2.2.2 = h.2.2.2.2 + 1 ∧ h'.2.2.2.1 h.2.2.2.2 = (k, 0) := by
  have e2 : h'.2.2.2.2 = h.2.2.2.2 + 1 := by rw [q1]; rfl
  refine ⟨⟨by omega, fun x hx => ?_⟩, e2, by rw [q1]; show (if h.2.2.2.2 = h.2.2.2.2 then _ else _) = _; rw [if_pos rfl]⟩
  have hne : x ≠ h.2.2.2.2 := by omega
  have g := (kx_Gw.new (P := fun _ _ => False) (L := fun _ _ => False) (Z := fun _ _ => False) (k := k) (len := 0) hN).2 x hx
  exact ⟨by rw [q1]; exact g.1, fun j => ⟨fun z => ((q2 x j hne).1).trans ((g.2 j).1 z), fun z => ((q2 x j hne).2.1).trans ((g.2 j).2.1 z), fun z => ((q2 x j hne).2.2).trans ((g.2 j).2.2 z)⟩⟩
theorem x_Tc_claim {l : Launch} {g : kx_G} {d : Nat} {h : kx_Mem} (hs : SC h) (b : Nat → Int32) (n : Nat) (ht : TapC b n h) (D : DK) (A : DA) (ho : DKok D) (hp : DKc D A h) (hx : DAx D A h) (hN : h.2.2.2.2 + 2 < 1000000) (td : Nat) (hck : h.1 0 9 = nI td) (rs : RS) (hro : RSok rs) (hRc : RSc rs h) (a b1 c e u m : Int32) : kx_Sp l g m_Tc_claim [.ref 0, .int a, .int b1, .int c, .int e, .int u, .int m] h (d + 8) 2 500 (fun v h' => CcQ (clmR D rs td (oneW b n) a b1 c e u m) h v h') := by
  have oP := ho.1.1
  have oT := ho.2.1.1
  have oC := ho.2.2.1.1
  have oF := ho.2.2.2.1
  have hwl := oneW_lt b n
  refine kx_enter_e (lv := [_, _, _, _, _, _, _, _, _, _]) (by decide +kernel) (Nat.le_of_ble_eq_true rfl) rfl ?_
  refine kx_aload_n (pc := 0) (kx_dd d_Tc_claim 0 rfl) rfl rfl ?_
  refine kx_getR (pc := 1) (b := 1) fl_Tc_10 (hs.k 0 rfl) rfl (hs.r 0 rfl) (kx_dd d_Tc_claim 1 rfl) ?_
  refine kx_invV (pc := 4) (a := 1) (as := []) (kx_dd d_Tc_claim 2 rfl) ⟨lk_Tc_158, wi_Ta_takeWord, we_Ta_takeWord⟩ w_Ta_takeWord (hs.k 1 rfl) rfl rfl rfl rfl (Nat.le_of_ble_eq_true rfl) (x_Ta_takeWord (d := d + 4) hs b n ht) (Nat.le_refl _) ⟨Nat.le_of_ble_eq_true rfl, Nat.le_of_ble_eq_true rfl⟩ (fun v h' hq => ?_)
  revert h'
  intro h1 hq
  obtain ⟨rfl, hf1, e11⟩ := hq
  have hs : SC h1 := hs.fg hf1
  have ec1 : h1.2.2 = h.2.2 := hf1.2.2
  have hgA : kx_Gw FcP FtL FcZ h h1 := hf1.gw.mono (fun a j z => Or.inl z) (fun a j z => z) (fun a j (z : False) => z.elim)
  have hp1 : DKc D A h1 := hp.fgx hf1 (fun a j z => ⟨by omega, by unfold FtL; omega⟩)
  have hx1 : DAx D A h1 := hx.gw hgA
  have hN1 : h1.2.2.2.2 + 2 < 1000000 := by rw [ec1]; exact hN
  have hck1 : h1.1 0 9 = nI td := (hf1.1 0 9 (by omega)).trans hck
  have ecn : h1.2.2.2.2 = h.2.2.2.2 := by rw [ec1]
  have oI := hx1.1
  refine kx_lstore_e (pc := 7) (lv' := [_, _, _, _, _, _, _, _, _, _]) (kx_dd d_Tc_claim 3 rfl) (Nat.le_of_ble_eq_true rfl) rfl ?_
  refine kx_aload_n (pc := 9) (kx_dd d_Tc_claim 4 rfl) rfl rfl ?_
  refine kx_getR (pc := 10) (b := 14) fl_Tc_34 (hs.k 0 rfl) rfl (hs.r 3 rfl) (kx_dd d_Tc_claim 5 rfl) ?_
  refine kx_iload_n (pc := 13) (kx_dd d_Tc_claim 6 rfl) rfl rfl ?_
  refine kx_invV (pc := 14) (a := 14) (as := [_]) (kx_dd d_Tc_claim 7 rfl) ⟨lk_Tc_101, wi_Pe_has, we_Pe_has⟩ w_Pe_has (hs.k 14 rfl) rfl rfl rfl rfl (Nat.le_of_ble_eq_true rfl) (x_Pe_has (d := d + 7) hs a) (Nat.le_refl _) ⟨Nat.le_of_ble_eq_true rfl, Nat.le_of_ble_eq_true rfl⟩ (fun v h' hq => ?_)
  obtain ⟨rfl, he⟩ := hq
  rw [he]
  clear he
  rw [hp1.1.1]
  refine kx_if_eq (pc := 17) (tgt := 40) (kx_dd d_Tc_claim 8 rfl) rfl (fun c17 => ?_) (fun c17 => ?_)
  · refine kx_bipush (pc := 40) (v := -2) (kx_dd d_Tc_claim 19 rfl) rfl ?_
    refine kx_iret (pc := 42) rfl (kx_dd d_Tc_claim 20 rfl) (Nat.le_of_ble_eq_true rfl) (Nat.le_of_ble_eq_true rfl) ?_
    have eR : clmR D rs td (oneW b n) a b1 c e u m = (-2, D) := if_neg (fun x => bP_0.mp c17 x.1)
    show CcQ _ _ _ _
    rw [eR]
    exact ⟨rfl, e11, ⟨A, hp1, hx1⟩, hgA, by omega⟩
  · have c17 := (bP_ti _).mp c17
    refine kx_iload_n (pc := 20) (kx_dd d_Tc_claim 9 rfl) rfl rfl ?_
    refine kx_iconst (pc := 21) (v := 0) (kx_dd d_Tc_claim 10 rfl) rfl ?_
    refine kx_iconst (pc := 22) (v := 3) (kx_dd d_Tc_claim 11 rfl) rfl ?_
    refine kx_invS (pc := 23) (as := [_, _, _]) (kx_dd d_Tc_claim 12 rfl) ⟨lk_Tc_90, wt_Tc_within⟩ w_Tc_within rfl rfl (Nat.le_of_ble_eq_true rfl) (x_Tc_within (d := d + 7) b1 0 3) (Nat.le_refl _) ⟨Nat.le_of_ble_eq_true rfl, Nat.le_of_ble_eq_true rfl⟩ (fun v h' hq => ?_)
    obtain ⟨rfl, he⟩ := hq
    rw [he]
    clear he
    refine kx_if_eq (pc := 26) (tgt := 40) (kx_dd d_Tc_claim 13 rfl) rfl (fun c26 => ?_) (fun c26 => ?_)
    · refine kx_bipush (pc := 40) (v := -2) (kx_dd d_Tc_claim 19 rfl) rfl ?_
      refine kx_iret (pc := 42) rfl (kx_dd d_Tc_claim 20 rfl) (Nat.le_of_ble_eq_true rfl) (Nat.le_of_ble_eq_true rfl) ?_
      have eR : clmR D rs td (oneW b n) a b1 c e u m = (-2, D) := if_neg (fun x => bP_0.mp c26 x.2.1)
      show CcQ _ _ _ _
      rw [eR]
      exact ⟨rfl, e11, ⟨A, hp1, hx1⟩, hgA, by omega⟩
    · have c26 := (bP_ti _).mp c26
      refine kx_aload_n (pc := 29) (kx_dd d_Tc_claim 14 rfl) rfl rfl ?_
      refine kx_getR (pc := 30) (b := 34) fl_Tc_48 (hs.k 0 rfl) rfl (hs.r 5 rfl) (kx_dd d_Tc_claim 15 rfl) ?_
      refine kx_iload_n (pc := 33) (kx_dd d_Tc_claim 16 rfl) rfl rfl ?_
      refine kx_invV (pc := 34) (a := 34) (as := [_]) (kx_dd d_Tc_claim 17 rfl) ⟨lk_Tc_171, wi_Th_has, we_Th_has⟩ w_Th_has (hs.k 34 rfl) rfl rfl rfl rfl (Nat.le_of_ble_eq_true rfl) (x_Th_has (d := d + 7) hs c) (Nat.le_refl _) ⟨Nat.le_of_ble_eq_true rfl, Nat.le_of_ble_eq_true rfl⟩ (fun v h' hq => ?_)
      obtain ⟨rfl, he⟩ := hq
      rw [he]
      clear he
      rw [hp1.2.1.1]
      refine kx_if_ne (pc := 37) (tgt := 43) (kx_dd d_Tc_claim 18 rfl) rfl (fun c37 => ?_) (fun c37 => ?_)
      · have c37 := (bP_ti _).mp c37
        refine kx_iload (pc := 43) (kx_dd d_Tc_claim 21 rfl) rfl ?_
        refine kx_iconst (pc := 45) (v := 0) (kx_dd d_Tc_claim 22 rfl) rfl ?_
        refine kx_iconst (pc := 46) (v := 3) (kx_dd d_Tc_claim 23 rfl) rfl ?_
        refine kx_invS (pc := 47) (as := [_, _, _]) (kx_dd d_Tc_claim 24 rfl) ⟨lk_Tc_90, wt_Tc_within⟩ w_Tc_within rfl rfl (Nat.le_of_ble_eq_true rfl) (x_Tc_within (d := d + 7) e 0 3) (Nat.le_refl _) ⟨Nat.le_of_ble_eq_true rfl, Nat.le_of_ble_eq_true rfl⟩ (fun v h' hq => ?_)
        obtain ⟨rfl, he⟩ := hq
        rw [he]
        clear he
        refine kx_if_eq (pc := 50) (tgt := 74) (kx_dd d_Tc_claim 25 rfl) rfl (fun c50 => ?_) (fun c50 => ?_)
        · refine kx_bipush (pc := 74) (v := -2) (kx_dd d_Tc_claim 36 rfl) rfl ?_
          refine kx_iret (pc := 76) rfl (kx_dd d_Tc_claim 37 rfl) (Nat.le_of_ble_eq_true rfl) (Nat.le_of_ble_eq_true rfl) ?_
          have eR : clmR D rs td (oneW b n) a b1 c e u m = (-2, D) := if_neg (fun x => bP_0.mp c50 x.2.2.2.1)
          show CcQ _ _ _ _
          rw [eR]
          exact ⟨rfl, e11, ⟨A, hp1, hx1⟩, hgA, by omega⟩
        · have c50 := (bP_ti _).mp c50
          refine kx_iload (pc := 53) (kx_dd d_Tc_claim 26 rfl) rfl ?_
          refine kx_iconst (pc := 55) (v := 0) (kx_dd d_Tc_claim 27 rfl) rfl ?_
          refine kx_iconst (pc := 56) (v := 3) (kx_dd d_Tc_claim 28 rfl) rfl ?_
          refine kx_invS (pc := 57) (as := [_, _, _]) (kx_dd d_Tc_claim 29 rfl) ⟨lk_Tc_90, wt_Tc_within⟩ w_Tc_within rfl rfl (Nat.le_of_ble_eq_true rfl) (x_Tc_within (d := d + 7) u 0 3) (Nat.le_refl _) ⟨Nat.le_of_ble_eq_true rfl, Nat.le_of_ble_eq_true rfl⟩ (fun v h' hq => ?_)
          obtain ⟨rfl, he⟩ := hq
          rw [he]
          clear he
          refine kx_if_eq (pc := 60) (tgt := 74) (kx_dd d_Tc_claim 30 rfl) rfl (fun c60 => ?_) (fun c60 => ?_)
          · refine kx_bipush (pc := 74) (v := -2) (kx_dd d_Tc_claim 36 rfl) rfl ?_
            refine kx_iret (pc := 76) rfl (kx_dd d_Tc_claim 37 rfl) (Nat.le_of_ble_eq_true rfl) (Nat.le_of_ble_eq_true rfl) ?_
            have eR : clmR D rs td (oneW b n) a b1 c e u m = (-2, D) := if_neg (fun x => bP_0.mp c60 x.2.2.2.2.1)
            show CcQ _ _ _ _
            rw [eR]
            exact ⟨rfl, e11, ⟨A, hp1, hx1⟩, hgA, by omega⟩
          · have c60 := (bP_ti _).mp c60
            refine kx_iload (pc := 63) (kx_dd d_Tc_claim 31 rfl) rfl ?_
            refine kx_iconst (pc := 65) (v := 1) (kx_dd d_Tc_claim 32 rfl) rfl ?_
            refine kx_ldc (pc := 66) ki_Tc_174 (kx_dd d_Tc_claim 33 rfl) ?_
            refine kx_invS (pc := 68) (as := [_, _, _]) (kx_dd d_Tc_claim 34 rfl) ⟨lk_Tc_90, wt_Tc_within⟩ w_Tc_within rfl rfl (Nat.le_of_ble_eq_true rfl) (x_Tc_within (d := d + 7) m 1 9999999) (Nat.le_refl _) ⟨Nat.le_of_ble_eq_true rfl, Nat.le_of_ble_eq_true rfl⟩ (fun v h' hq => ?_)
            obtain ⟨rfl, he⟩ := hq
            rw [he]
            clear he
            refine kx_if_ne (pc := 71) (tgt := 77) (kx_dd d_Tc_claim 35 rfl) rfl (fun c71 => ?_) (fun c71 => ?_)
            · have c71 := (bP_ti _).mp c71
              have hcl : clmP D a b1 c e u m := ⟨c17, c26, c37, c50, c60, c71⟩
              obtain ⟨a9, ha9, rfl⟩ := valP (n := D.1.1) (by omega) c17
              obtain ⟨b9, hb9, rfl⟩ := val03 c26
              obtain ⟨c9, hc9, rfl⟩ := valP (n := D.2.1.1) (by omega) c37
              obtain ⟨e9, he9, rfl⟩ := val03 c50
              obtain ⟨u9, hu9, rfl⟩ := val03 c60
              obtain ⟨m9, hm9, rfl⟩ := valF c71
              have hdl : D.2.1.2.1 c9 ≤ 1999 := (ho.2.1.2 c9 hc9).1
              refine kx_lload (pc := 77) (kx_dd d_Tc_claim 38 rfl) rfl ?_
              refine kx_lconst (pc := 79) (v := 0) (kx_dd d_Tc_claim 39 rfl) rfl ?_
              refine kx_lcmp (pc := 80) (kx_dd d_Tc_claim 40 rfl) ?_
              refine kx_if_ne (pc := 81) (tgt := 86) (kx_dd d_Tc_claim 41 rfl) rfl (fun c81 => ?_) (fun c81 => ?_)
              · rw [show (0 : Int64) = lN 0 from rfl, lcmp0 hwl (by decide)] at c81
                have hs0 := hs
                refine kx_aload_n (pc := 86) (kx_dd d_Tc_claim 44 rfl) rfl rfl ?_
                refine kx_getR (pc := 87) (b := 30) fl_Tc_41 (hs.k 0 rfl) rfl (hs.r 4 rfl) (kx_dd d_Tc_claim 45 rfl) ?_
                refine kx_iload (pc := 90) (kx_dd d_Tc_claim 46 rfl) rfl ?_
                refine kx_iload (pc := 92) (kx_dd d_Tc_claim 47 rfl) rfl ?_
                refine kx_aload_n (pc := 94) (kx_dd d_Tc_claim 48 rfl) rfl rfl ?_
                refine kx_getR (pc := 95) (b := 34) fl_Tc_48 (hs.k 0 rfl) rfl (hs.r 5 rfl) (kx_dd d_Tc_claim 49 rfl) ?_
                refine kx_iload_n (pc := 98) (kx_dd d_Tc_claim 50 rfl) rfl rfl ?_
                refine kx_invV (pc := 99) (a := 34) (as := [_]) (kx_dd d_Tc_claim 51 rfl) ⟨lk_Tc_175, wi_Th_dayOf, we_Th_dayOf⟩ w_Th_dayOf (hs.k 34 rfl) rfl rfl rfl rfl (Nat.le_of_ble_eq_true rfl) (x_Th_dayOf (d := d + 6) hs D.2.1 ho.2.1 hp1.2.1 c9 hc9) (Nat.le_refl _) ⟨Nat.le_of_ble_eq_true rfl, Nat.le_of_ble_eq_true rfl⟩ (fun v h' hq => ?_)
                obtain ⟨rfl, he⟩ := hq
                rw [he]
                clear he
                refine kx_invV (pc := 102) (a := 30) (as := [_, _, _]) (kx_dd d_Tc_claim 52 rfl) ⟨lk_Tc_178, wi_Ra_amountOf, we_Ra_amountOf⟩ w_Ra_amountOf (hs.k 30 rfl) rfl rfl rfl rfl (Nat.le_of_ble_eq_true rfl) (x_Ra_amountOf (d := d + 6) hs rs hro (hRc.fgx hf1 (fun a j z => by omega)) u9 (D.2.1.2.1 c9) (by omega) (by omega) m9 (by omega)) (Nat.le_refl _) ⟨Nat.le_of_ble_eq_true rfl, Nat.le_of_ble_eq_true rfl⟩ (fun v h' hq => ?_)
                obtain ⟨rfl, he⟩ := hq
                rw [he]
                clear he
                refine kx_istore_e (pc := 105) (lv' := [_, _, _, _, _, _, _, _, _, _]) (kx_dd d_Tc_claim 53 rfl) (Nat.le_of_ble_eq_true rfl) rfl ?_
                refine kx_aload_n (pc := 107) (kx_dd d_Tc_claim 54 rfl) rfl rfl ?_
                refine kx_getR (pc := 108) (b := 39) fl_Tc_57 (hs.k 0 rfl) rfl (hs.r 6 rfl) (kx_dd d_Tc_claim 55 rfl) ?_
                refine kx_newO (pc := 111) (ci := 1) (r := (kx_C1, kx_T1, 18)) rfl cl_Tc_181 wn_C.1 wn_C.2 (by omega) (Nat.le_of_ble_eq_true rfl) (Nat.le_of_ble_eq_true rfl) (kx_dd d_Tc_claim 56 rfl) ?_
                have hs2 : SC (kx_new h1 2 0) := hs.gw (kx_Gw.new (P := fun _ _ => False) (L := fun _ _ => False) (Z := fun _ _ => False) (by omega)) hx1.1 (fun q hq => ⟨(rC_z q hq).1, id⟩) tC_z
                have hs := hs2
                refine kx_dup (pc := 114) (kx_dd d_Tc_claim 57 rfl) rfl ?_
                refine kx_iload_n (pc := 115) (kx_dd d_Tc_claim 58 rfl) rfl rfl ?_
                refine kx_iload_n (pc := 116) (kx_dd d_Tc_claim 59 rfl) rfl rfl ?_
                refine kx_iload_n (pc := 117) (kx_dd d_Tc_claim 60 rfl) rfl rfl ?_
                refine kx_iload (pc := 118) (kx_dd d_Tc_claim 61 rfl) rfl ?_
                refine kx_iload (pc := 120) (kx_dd d_Tc_claim 62 rfl) rfl ?_
                refine kx_aload_n (pc := 122) (kx_dd d_Tc_claim 63 rfl) rfl rfl ?_
                refine kx_getI (pc := 123) fl_Tc_94 (hs.k 0 rfl) rfl (kx_dd d_Tc_claim 64 rfl) ?_
                rw [show (kx_new h1 2 0).1 0 9 = nI td from by show (if 0 = h1.2.2.2.2 then _ else _) = _; rw [if_neg (by omega)]; exact hck1]
                refine kx_lload (pc := 126) (kx_dd d_Tc_claim 65 rfl) rfl ?_
                refine kx_invI (pc := 128) (a := h1.2.2.2.2) (as := [_, _, _, _, _, _, _]) rfl (kx_dd d_Tc_claim 66 rfl) ⟨lk_Tc_183, rfl, wi_Cl_init⟩ w_Cl_init rfl rfl (Nat.le_of_ble_eq_true rfl) (x_Cl_init (d := d + 6) (h := kx_new h1 2 0) h1.2.2.2.2 a9 b9 c9 e9 (amtF rs m9 u9 (D.2.1.2.1 c9)) td (lN (oneW b n)) (by show (if h1.2.2.2.2 = h1.2.2.2.2 then _ else _) = _; rw [if_pos rfl]) (by omega) (fun j => by show (if h1.2.2.2.2 = h1.2.2.2.2 then _ else _) = _; rw [if_pos rfl])) (Nat.le_refl _) ⟨Nat.le_of_ble_eq_true rfl, Nat.le_of_ble_eq_true rfl⟩ (fun v h' hq => ?_)
                revert h'
                intro h3 hq
                obtain ⟨rfl, q1, q2, q3, q4⟩ := hq
                obtain ⟨hg3, n3, k3⟩ := kx_Gw.born (h := h1) (h' := h3) (k := 2) (by omega) (by rw [q1]) (fun x j z => ⟨(q2 x j z).1, (q2 x j z).2, by rw [q1]⟩)
                have hs : SC h3 := hs0.gw hg3 hx1.1 (fun q hq => ⟨(rC_z q hq).1, id⟩) tC_z
                have hp3 : DKc D A h3 := hp1.gw hx1 hg3 (fun a j _ => ⟨id, id, id⟩)
                have hx3 : DAx D A h3 := hx1.gw hg3
                have e13 : h3.1 1 1 = nI 0 := (((hg3.2 1 (Or.inl (by omega))).2 1).1 id).trans e11
                have hgB : kx_Gw FcP FtL FcZ h h3 := hgA.tr (hg3.mono (fun a j (z : False) => z.elim) (fun a j (z : False) => z.elim) (fun a j (z : False) => z.elim))
                refine kx_invV (pc := 131) (a := 39) (as := [_]) (kx_dd d_Tc_claim 67 rfl) ⟨lk_Tc_186, wi_Do_file, we_Do_file⟩ w_Do_file (hs.k 39 rfl) rfl rfl rfl rfl (Nat.le_of_ble_eq_true rfl) (x_Do_file (d := d) hs D.2.2.1.1 A.2.2.1 A.2.2.2.1 A.1 hx3.1 (by omega) hp3.2.2.1 hx3.2.1 oC (fun i hi => ⟨congrArg Prod.fst (hp3.2.2.2.2.1.2 i hi).2.2.1, hx3.2.2.2.1 i hi⟩) h1.2.2.2.2 (congrArg Prod.fst k3) (by omega)) (Nat.le_refl _) ⟨Nat.le_of_ble_eq_true rfl, Nat.le_of_ble_eq_true rfl⟩ (fun v h' hq => ?_)
                revert h'
                intro h4 hq
                obtain ⟨x9, rfl, hq9⟩ : ∃ x9, v = some (.int x9) ∧ ((D.2.2.1.1 = 60 ∧ x9 = -3 ∧ h4 = h3) ∨ (D.2.2.1.1 < 60 ∧ x9 = nI D.2.2.1.1 ∧ AdQ 40 D.2.2.1.1 A.2.2.1 h1.2.2.2.2 A.1 h3 h4)) := by
                  rcases hq with ⟨g1, rfl, g3⟩ | ⟨g1, rfl, g3⟩
                  · exact ⟨_, rfl, Or.inl ⟨g1, rfl, g3⟩⟩
                  · exact ⟨_, rfl, Or.inr ⟨g1, rfl, g3⟩⟩
                refine kx_iret (pc := 134) rfl (kx_dd d_Tc_claim 68 rfl) (Nat.le_of_ble_eq_true rfl) (Nat.le_of_ble_eq_true rfl) ?_
                rcases hq9 with ⟨g1, rfl, rfl⟩ | ⟨g1, rfl, hz⟩
                · have eR : clmR D rs td (oneW b n) (nI a9) (nI b9) (nI c9) (nI e9) (nI u9) (nI m9) = (-3, D) := by unfold clmR; rw [if_pos hcl, if_neg c81, if_pos g1]
                  show CcQ _ _ _ _
                  rw [eR]
                  exact ⟨rfl, e13, ⟨A, hp3, hx3⟩, hgB, by omega⟩
                · have eR : clmR D rs td (oneW b n) (nI a9) (nI b9) (nI c9) (nI e9) (nI u9) (nI m9) = (nI D.2.2.1.1, addC D a9 b9 c9 e9 (amtF rs m9 u9 (D.2.1.2.1 c9)) td (oneW b n)) := by unfold clmR; rw [if_pos hcl, if_neg c81, if_neg (by omega), nI_clamp (by omega), nI_clamp (by omega), nI_clamp (by omega), nI_clamp (by omega), nI_clamp (by omega), nI_clamp (by omega)]
                  show CcQ _ _ _ _
                  rw [eR]
                  have hg4 := hz.gw (Or.inl rfl) hx3.2.1.ge
                  obtain ⟨-, -, -, -, -, c4, c5, k6⟩ := id hz
                  exact ⟨rfl, (((k6 1 (Or.inl (by omega))).2 1).1 (by omega)).trans e13, hp3.addC ho hx3 (by omega) (by omega) (by omega) k3 (fun q hq z => by have := hx1.2.2.2.1 q hq; omega) q3 q4 hz, hgB.tr hg4, by omega⟩
              · refine kx_iconst (pc := 84) (v := -1) (kx_dd d_Tc_claim 42 rfl) rfl ?_
                refine kx_iret (pc := 85) rfl (kx_dd d_Tc_claim 43 rfl) (Nat.le_of_ble_eq_true rfl) (Nat.le_of_ble_eq_true rfl) ?_
                rw [show (0 : Int64) = lN 0 from rfl, lcmp0 hwl (by decide)] at c81
                have eR : clmR D rs td (oneW b n) (nI a9) (nI b9) (nI c9) (nI e9) (nI u9) (nI m9) = (-1, D) := by unfold clmR; rw [if_pos hcl, if_pos c81]
                show CcQ _ _ _ _
                rw [eR]
                exact ⟨rfl, e11, ⟨A, hp1, hx1⟩, hgA, by omega⟩
            · refine kx_bipush (pc := 74) (v := -2) (kx_dd d_Tc_claim 36 rfl) rfl ?_
              refine kx_iret (pc := 76) rfl (kx_dd d_Tc_claim 37 rfl) (Nat.le_of_ble_eq_true rfl) (Nat.le_of_ble_eq_true rfl) ?_
              have eR : clmR D rs td (oneW b n) a b1 c e u m = (-2, D) := if_neg (fun x => bP_0.mp c71 x.2.2.2.2.2)
              show CcQ _ _ _ _
              rw [eR]
              exact ⟨rfl, e11, ⟨A, hp1, hx1⟩, hgA, by omega⟩
      · refine kx_bipush (pc := 40) (v := -2) (kx_dd d_Tc_claim 19 rfl) rfl ?_
        refine kx_iret (pc := 42) rfl (kx_dd d_Tc_claim 20 rfl) (Nat.le_of_ble_eq_true rfl) (Nat.le_of_ble_eq_true rfl) ?_
        have eR : clmR D rs td (oneW b n) a b1 c e u m = (-2, D) := if_neg (fun x => bP_0.mp c37 x.2.2.1)
        show CcQ _ _ _ _
        rw [eR]
        exact ⟨rfl, e11, ⟨A, hp1, hx1⟩, hgA, by omega⟩
theorem x_Tc_paperY {l : Launch} {g : kx_G} {d : Nat} {h : kx_Mem} (hs : SC h) (b : Nat → Int32) (n : Nat) (ht : TapC b n h) (D : DK) (A : DA) (ho : DKok D) (hp : DKc D A h) (hx : DAx D A h) (hN : h.2.2.2.2 + 2 < 1000000) (td : Nat) (hck : h.1 0 9 = nI td) (a9 : Nat) (ha9 : a9 < D.2.2.1.1) (b2 c : Int32) : kx_Sp l g m_Tc_paper [.ref 0, .int (nI a9), .int b2, .int c] h (d + 8) 2 500 (fun v h' => CcQ (papR D td (oneW b n) (nI a9) b2 c) h v h') := by
  have oP := ho.1.1
  have oT := ho.2.1.1
  have oC := ho.2.2.1.1
  have oF := ho.2.2.2.1
  have hwl := oneW_lt b n
  refine kx_enter_e (lv := [_, _, _, _, _, _, _]) (by decide +kernel) (Nat.le_of_ble_eq_true rfl) rfl ?_
  refine kx_aload_n (pc := 0) (kx_dd d_Tc_paper 0 rfl) rfl rfl ?_
  refine kx_getR (pc := 1) (b := 1) fl_Tc_10 (hs.k 0 rfl) rfl (hs.r 0 rfl) (kx_dd d_Tc_paper 1 rfl) ?_
  refine kx_invV (pc := 4) (a := 1) (as := []) (kx_dd d_Tc_paper 2 rfl) ⟨lk_Tc_158, wi_Ta_takeWord, we_Ta_takeWord⟩ w_Ta_takeWord (hs.k 1 rfl) rfl rfl rfl rfl (Nat.le_of_ble_eq_true rfl) (x_Ta_takeWord (d := d + 4) hs b n ht) (Nat.le_refl _) ⟨Nat.le_of_ble_eq_true rfl, Nat.le_of_ble_eq_true rfl⟩ (fun v h' hq => ?_)
  revert h'
  intro h1 hq
  obtain ⟨rfl, hf1, e11⟩ := hq
  have hs : SC h1 := hs.fg hf1
  have ec1 : h1.2.2 = h.2.2 := hf1.2.2
  have hgA : kx_Gw FcP FtL FcZ h h1 := hf1.gw.mono (fun a j z => Or.inl z) (fun a j z => z) (fun a j (z : False) => z.elim)
  have hp1 : DKc D A h1 := hp.fgx hf1 (fun a j z => ⟨by omega, by unfold FtL; omega⟩)
  have hx1 : DAx D A h1 := hx.gw hgA
  have hN1 : h1.2.2.2.2 + 2 < 1000000 := by rw [ec1]; exact hN
  have hck1 : h1.1 0 9 = nI td := (hf1.1 0 9 (by omega)).trans hck
  have ecn : h1.2.2.2.2 = h.2.2.2.2 := by rw [ec1]
  have oI := hx1.1
  refine kx_lstore_e (pc := 7) (lv' := [_, _, _, _, _, _, _]) (kx_dd d_Tc_paper 3 rfl) (Nat.le_of_ble_eq_true rfl) rfl ?_
  refine kx_aload_n (pc := 9) (kx_dd d_Tc_paper 4 rfl) rfl rfl ?_
  refine kx_getR (pc := 10) (b := 39) fl_Tc_57 (hs.k 0 rfl) rfl (hs.r 6 rfl) (kx_dd d_Tc_paper 5 rfl) ?_
  refine kx_iload_n (pc := 13) (kx_dd d_Tc_paper 6 rfl) rfl rfl ?_
  refine kx_invV (pc := 14) (a := 39) (as := [_]) (kx_dd d_Tc_paper 7 rfl) ⟨lk_Tc_190, wi_Do_claimAt, we_Do_claimAt⟩ w_Do_claimAt (hs.k 39 rfl) rfl rfl rfl rfl (Nat.le_of_ble_eq_true rfl) (x_Do_claimAt (d := d + 4) hs D A ho hp1 a9 ha9) (Nat.le_refl _) ⟨Nat.le_of_ble_eq_true rfl, Nat.le_of_ble_eq_true rfl⟩ (fun v h' hq => ?_)
  obtain ⟨rfl, he⟩ := hq
  rw [he]
  clear he
  refine kx_astore_e (pc := 17) (lv' := [_, _, _, _, _, _, _]) (kx_dd d_Tc_paper 8 rfl) (Nat.le_of_ble_eq_true rfl) rfl ?_
  refine kx_aload (pc := 19) (kx_dd d_Tc_paper 9 rfl) rfl ?_
  refine kx_ifnull (pc := 21) (kx_dd d_Tc_paper 10 rfl) ?_
  refine kx_iload_n (pc := 24) (kx_dd d_Tc_paper 11 rfl) rfl rfl ?_
  refine kx_invS (pc := 25) (as := [_]) (kx_dd d_Tc_paper 12 rfl) ⟨lk_Tc_105, wt_Tc_isDay⟩ w_Tc_isDay rfl rfl (Nat.le_of_ble_eq_true rfl) (x_Tc_isDay (d := d + 6) c) (Nat.le_refl _) ⟨Nat.le_of_ble_eq_true rfl, Nat.le_of_ble_eq_true rfl⟩ (fun v h' hq => ?_)
  obtain ⟨rfl, he⟩ := hq
  rw [he]
  clear he
  refine kx_if_eq (pc := 28) (tgt := 47) (kx_dd d_Tc_paper 13 rfl) rfl (fun c28 => ?_) (fun c28 => ?_)
  · refine kx_bipush (pc := 47) (v := -2) (kx_dd d_Tc_paper 22 rfl) rfl ?_
    refine kx_iret (pc := 49) rfl (kx_dd d_Tc_paper 23 rfl) (Nat.le_of_ble_eq_true rfl) (Nat.le_of_ble_eq_true rfl) ?_
    have eR : papR D td (oneW b n) (nI a9) b2 c = (-2, D) := if_neg (fun x => bP_0.mp c28 x.2.2)
    show CcQ _ _ _ _
    rw [eR]
    exact ⟨rfl, e11, ⟨A, hp1, hx1⟩, hgA, by omega⟩
  · have c28 := (bP_ti _).mp c28
    refine kx_iload_n (pc := 31) (kx_dd d_Tc_paper 14 rfl) rfl rfl ?_
    refine kx_iconst (pc := 32) (v := -1) (kx_dd d_Tc_paper 15 rfl) rfl ?_
    refine kx_icmp_eq (pc := 33) (tgt := 50) (kx_dd d_Tc_paper 16 rfl) rfl (fun c33 => ?_) (fun c33 => ?_)
    · have hcl : papP D (nI a9) b2 c := ⟨⟨Int32.not_lt.mp (nI_pos (by omega)), nI_lt ha9 (by omega)⟩, Or.inl c33, c28⟩
      obtain ⟨i9, hi1, hi2, hi3⟩ := isuI (by omega) hcl.2.1
      obtain ⟨c9, hc9, rfl⟩ := valD c28
      refine kx_lload (pc := 50) (kx_dd d_Tc_paper 24 rfl) rfl ?_
      refine kx_lconst (pc := 52) (v := 0) (kx_dd d_Tc_paper 25 rfl) rfl ?_
      refine kx_lcmp (pc := 53) (kx_dd d_Tc_paper 26 rfl) ?_
      refine kx_if_ne (pc := 54) (tgt := 59) (kx_dd d_Tc_paper 27 rfl) rfl (fun c54 => ?_) (fun c54 => ?_)
      · rw [show (0 : Int64) = lN 0 from rfl, lcmp0 hwl (by decide)] at c54
        have hs0 := hs
        refine kx_aload_n (pc := 59) (kx_dd d_Tc_paper 30 rfl) rfl rfl ?_
        refine kx_getR (pc := 60) (b := 39) fl_Tc_57 (hs.k 0 rfl) rfl (hs.r 6 rfl) (kx_dd d_Tc_paper 31 rfl) ?_
        refine kx_newO (pc := 63) (ci := 4) (r := (kx_C4, kx_T4, 5)) rfl cl_Tc_197 wn_P.1 wn_P.2 (by omega) (Nat.le_of_ble_eq_true rfl) (Nat.le_of_ble_eq_true rfl) (kx_dd d_Tc_paper 32 rfl) ?_
        have hs2 : SC (kx_new h1 5 0) := hs.gw (kx_Gw.new (P := fun _ _ => False) (L := fun _ _ => False) (Z := fun _ _ => False) (by omega)) hx1.1 (fun q hq => ⟨(rC_z q hq).1, id⟩) tC_z
        have hs := hs2
        refine kx_dup (pc := 66) (kx_dd d_Tc_paper 33 rfl) rfl ?_
        refine kx_aload (pc := 67) (kx_dd d_Tc_paper 34 rfl) rfl ?_
        refine kx_lload (pc := 69) (kx_dd d_Tc_paper 35 rfl) rfl ?_
        refine kx_iload_n (pc := 71) (kx_dd d_Tc_paper 36 rfl) rfl rfl ?_
        refine kx_iload_n (pc := 72) (kx_dd d_Tc_paper 37 rfl) rfl rfl ?_
        refine kx_aload_n (pc := 73) (kx_dd d_Tc_paper 38 rfl) rfl rfl ?_
        refine kx_getI (pc := 74) fl_Tc_94 (hs.k 0 rfl) rfl (kx_dd d_Tc_paper 39 rfl) ?_
        rw [show (kx_new h1 5 0).1 0 9 = nI td from by show (if 0 = h1.2.2.2.2 then _ else _) = _; rw [if_neg (by omega)]; exact hck1]
        refine kx_invI (pc := 77) (a := h1.2.2.2.2) (as := [_, _, _, _, _]) rfl (kx_dd d_Tc_paper 40 rfl) ⟨lk_Tc_199, rfl, wi_Pa_init⟩ w_Pa_init rfl rfl (Nat.le_of_ble_eq_true rfl) (x_Pa_init (d := d + 6) (h := kx_new h1 5 0) h1.2.2.2.2 (A.1 a9) (lN (oneW b n)) b2 (nI c9) (nI td) (by show (if h1.2.2.2.2 = h1.2.2.2.2 then _ else _) = _; rw [if_pos rfl]) (by omega)) (Nat.le_refl _) ⟨Nat.le_of_ble_eq_true rfl, Nat.le_of_ble_eq_true rfl⟩ (fun v h' hq => ?_)
        revert h'
        intro h3 hq
        obtain ⟨rfl, q1, q2, q3, q4, q5, q6, q7⟩ := hq
        obtain ⟨hg3, n3, k3⟩ := kx_Gw.born (h := h1) (h' := h3) (k := 5) (by omega) q1 q2
        have hs : SC h3 := hs0.gw hg3 hx1.1 (fun q hq => ⟨(rC_z q hq).1, id⟩) tC_z
        have hp3 : DKc D A h3 := hp1.gw hx1 hg3 (fun a j _ => ⟨id, id, id⟩)
        have hx3 : DAx D A h3 := hx1.gw hg3
        have e13 : h3.1 1 1 = nI 0 := (((hg3.2 1 (Or.inl (by omega))).2 1).1 id).trans e11
        have hgB : kx_Gw FcP FtL FcZ h h3 := hgA.tr (hg3.mono (fun a j (z : False) => z.elim) (fun a j (z : False) => z.elim) (fun a j (z : False) => z.elim))
        refine kx_invV (pc := 80) (a := 39) (as := [_]) (kx_dd d_Tc_paper 41 rfl) ⟨lk_Tc_202, wi_Do_bring, we_Do_bring⟩ w_Do_bring (hs.k 39 rfl) rfl rfl rfl rfl (Nat.le_of_ble_eq_true rfl) (x_Do_bring (d := d) hs D.2.2.2.1 A.2.2.2.2.1 A.2.2.2.2.2 A.2.1 hx3.1 (by omega) hp3.2.2.2.1 hx3.2.2.1 oF (fun i hi => ⟨congrArg Prod.fst (hp3.2.2.2.2.2 i hi).2.2.1, hx3.2.2.2.2.1 i hi⟩) h1.2.2.2.2 (congrArg Prod.fst k3) (by omega)) (Nat.le_refl _) ⟨Nat.le_of_ble_eq_true rfl, Nat.le_of_ble_eq_true rfl⟩ (fun v h' hq => ?_)
        revert h'
        intro h4 hq
        obtain ⟨x9, rfl, hq9⟩ : ∃ x9, v = some (.int x9) ∧ ((D.2.2.2.1 = 150 ∧ x9 = -3 ∧ h4 = h3) ∨ (D.2.2.2.1 < 150 ∧ x9 = nI D.2.2.2.1 ∧ AdQ 41 D.2.2.2.1 A.2.2.2.2.1 h1.2.2.2.2 A.2.1 h3 h4)) := by
          rcases hq with ⟨g1, rfl, g3⟩ | ⟨g1, rfl, g3⟩
          · exact ⟨_, rfl, Or.inl ⟨g1, rfl, g3⟩⟩
          · exact ⟨_, rfl, Or.inr ⟨g1, rfl, g3⟩⟩
        refine kx_iret (pc := 83) rfl (kx_dd d_Tc_paper 42 rfl) (Nat.le_of_ble_eq_true rfl) (Nat.le_of_ble_eq_true rfl) ?_
        rcases hq9 with ⟨g1, rfl, rfl⟩ | ⟨g1, rfl, hz⟩
        · have eR : papR D td (oneW b n) (nI a9) b2 (nI c9) = (-3, D) := by unfold papR; rw [if_pos hcl, if_neg c54, if_pos g1]
          show CcQ _ _ _ _
          rw [eR]
          exact ⟨rfl, e13, ⟨A, hp3, hx3⟩, hgB, by omega⟩
        · have eR : papR D td (oneW b n) (nI a9) b2 (nI c9) = (nI D.2.2.2.1, addP D a9 (oneW b n) i9 c9 td) := by unfold papR; rw [if_pos hcl, if_neg c54, if_neg (by omega), nI_clamp (by omega), nI_clamp (by omega), hi3]
          show CcQ _ _ _ _
          rw [eR]
          have hg4 := hz.gw (Or.inr rfl) hx3.2.2.1.ge
          obtain ⟨-, -, -, -, -, c4, c5, k6⟩ := id hz
          exact ⟨rfl, (((k6 1 (Or.inl (by omega))).2 1).1 (by omega)).trans e13, hp3.addP ha9 hx3 (by omega) (by omega) (by omega) k3 q3 q4 (q5.trans hi2) q6 q7 hz, hgB.tr hg4, by omega⟩
      · refine kx_iconst (pc := 57) (v := -1) (kx_dd d_Tc_paper 28 rfl) rfl ?_
        refine kx_iret (pc := 58) rfl (kx_dd d_Tc_paper 29 rfl) (Nat.le_of_ble_eq_true rfl) (Nat.le_of_ble_eq_true rfl) ?_
        rw [show (0 : Int64) = lN 0 from rfl, lcmp0 hwl (by decide)] at c54
        have eR : papR D td (oneW b n) (nI a9) b2 (nI c9) = (-1, D) := by unfold papR; rw [if_pos hcl, if_pos c54]
        show CcQ _ _ _ _
        rw [eR]
        exact ⟨rfl, e11, ⟨A, hp1, hx1⟩, hgA, by omega⟩
    · refine kx_aload_n (pc := 36) (kx_dd d_Tc_paper 17 rfl) rfl rfl ?_
      refine kx_getR (pc := 37) (b := 14) fl_Tc_34 (hs.k 0 rfl) rfl (hs.r 3 rfl) (kx_dd d_Tc_paper 18 rfl) ?_
      refine kx_iload_n (pc := 40) (kx_dd d_Tc_paper 19 rfl) rfl rfl ?_
      refine kx_invV (pc := 41) (a := 14) (as := [_]) (kx_dd d_Tc_paper 20 rfl) ⟨lk_Tc_101, wi_Pe_has, we_Pe_has⟩ w_Pe_has (hs.k 14 rfl) rfl rfl rfl rfl (Nat.le_of_ble_eq_true rfl) (x_Pe_has (d := d + 7) hs b2) (Nat.le_refl _) ⟨Nat.le_of_ble_eq_true rfl, Nat.le_of_ble_eq_true rfl⟩ (fun v h' hq => ?_)
      obtain ⟨rfl, he⟩ := hq
      rw [he]
      clear he
      rw [hp1.1.1]
      refine kx_if_ne (pc := 44) (tgt := 50) (kx_dd d_Tc_paper 21 rfl) rfl (fun c44 => ?_) (fun c44 => ?_)
      · have hcl : papP D (nI a9) b2 c := ⟨⟨Int32.not_lt.mp (nI_pos (by omega)), nI_lt ha9 (by omega)⟩, Or.inr ((bP_ti _).mp c44), c28⟩
        obtain ⟨i9, hi1, hi2, hi3⟩ := isuI (by omega) hcl.2.1
        obtain ⟨c9, hc9, rfl⟩ := valD c28
        refine kx_lload (pc := 50) (kx_dd d_Tc_paper 24 rfl) rfl ?_
        refine kx_lconst (pc := 52) (v := 0) (kx_dd d_Tc_paper 25 rfl) rfl ?_
        refine kx_lcmp (pc := 53) (kx_dd d_Tc_paper 26 rfl) ?_
        refine kx_if_ne (pc := 54) (tgt := 59) (kx_dd d_Tc_paper 27 rfl) rfl (fun c54 => ?_) (fun c54 => ?_)
        · rw [show (0 : Int64) = lN 0 from rfl, lcmp0 hwl (by decide)] at c54
          have hs0 := hs
          refine kx_aload_n (pc := 59) (kx_dd d_Tc_paper 30 rfl) rfl rfl ?_
          refine kx_getR (pc := 60) (b := 39) fl_Tc_57 (hs.k 0 rfl) rfl (hs.r 6 rfl) (kx_dd d_Tc_paper 31 rfl) ?_
          refine kx_newO (pc := 63) (ci := 4) (r := (kx_C4, kx_T4, 5)) rfl cl_Tc_197 wn_P.1 wn_P.2 (by omega) (Nat.le_of_ble_eq_true rfl) (Nat.le_of_ble_eq_true rfl) (kx_dd d_Tc_paper 32 rfl) ?_
          have hs2 : SC (kx_new h1 5 0) := hs.gw (kx_Gw.new (P := fun _ _ => False) (L := fun _ _ => False) (Z := fun _ _ => False) (by omega)) hx1.1 (fun q hq => ⟨(rC_z q hq).1, id⟩) tC_z
          have hs := hs2
          refine kx_dup (pc := 66) (kx_dd d_Tc_paper 33 rfl) rfl ?_
          refine kx_aload (pc := 67) (kx_dd d_Tc_paper 34 rfl) rfl ?_
          refine kx_lload (pc := 69) (kx_dd d_Tc_paper 35 rfl) rfl ?_
          refine kx_iload_n (pc := 71) (kx_dd d_Tc_paper 36 rfl) rfl rfl ?_
          refine kx_iload_n (pc := 72) (kx_dd d_Tc_paper 37 rfl) rfl rfl ?_
          refine kx_aload_n (pc := 73) (kx_dd d_Tc_paper 38 rfl) rfl rfl ?_
          refine kx_getI (pc := 74) fl_Tc_94 (hs.k 0 rfl) rfl (kx_dd d_Tc_paper 39 rfl) ?_
          rw [show (kx_new h1 5 0).1 0 9 = nI td from by show (if 0 = h1.2.2.2.2 then _ else _) = _; rw [if_neg (by omega)]; exact hck1]
          refine kx_invI (pc := 77) (a := h1.2.2.2.2) (as := [_, _, _, _, _]) rfl (kx_dd d_Tc_paper 40 rfl) ⟨lk_Tc_199, rfl, wi_Pa_init⟩ w_Pa_init rfl rfl (Nat.le_of_ble_eq_true rfl) (x_Pa_init (d := d + 6) (h := kx_new h1 5 0) h1.2.2.2.2 (A.1 a9) (lN (oneW b n)) b2 (nI c9) (nI td) (by show (if h1.2.2.2.2 = h1.2.2.2.2 then _ else _) = _; rw [if_pos rfl]) (by omega)) (Nat.le_refl _) ⟨Nat.le_of_ble_eq_true rfl, Nat.le_of_ble_eq_true rfl⟩ (fun v h' hq => ?_)
          revert h'
          intro h3 hq
          obtain ⟨rfl, q1, q2, q3, q4, q5, q6, q7⟩ := hq
          obtain ⟨hg3, n3, k3⟩ := kx_Gw.born (h := h1) (h' := h3) (k := 5) (by omega) q1 q2
          have hs : SC h3 := hs0.gw hg3 hx1.1 (fun q hq => ⟨(rC_z q hq).1, id⟩) tC_z
          have hp3 : DKc D A h3 := hp1.gw hx1 hg3 (fun a j _ => ⟨id, id, id⟩)
          have hx3 : DAx D A h3 := hx1.gw hg3
          have e13 : h3.1 1 1 = nI 0 := (((hg3.2 1 (Or.inl (by omega))).2 1).1 id).trans e11
          have hgB : kx_Gw FcP FtL FcZ h h3 := hgA.tr (hg3.mono (fun a j (z : False) => z.elim) (fun a j (z : False) => z.elim) (fun a j (z : False) => z.elim))
          refine kx_invV (pc := 80) (a := 39) (as := [_]) (kx_dd d_Tc_paper 41 rfl) ⟨lk_Tc_202, wi_Do_bring, we_Do_bring⟩ w_Do_bring (hs.k 39 rfl) rfl rfl rfl rfl (Nat.le_of_ble_eq_true rfl) (x_Do_bring (d := d) hs D.2.2.2.1 A.2.2.2.2.1 A.2.2.2.2.2 A.2.1 hx3.1 (by omega) hp3.2.2.2.1 hx3.2.2.1 oF (fun i hi => ⟨congrArg Prod.fst (hp3.2.2.2.2.2 i hi).2.2.1, hx3.2.2.2.2.1 i hi⟩) h1.2.2.2.2 (congrArg Prod.fst k3) (by omega)) (Nat.le_refl _) ⟨Nat.le_of_ble_eq_true rfl, Nat.le_of_ble_eq_true rfl⟩ (fun v h' hq => ?_)
          revert h'
          intro h4 hq
          obtain ⟨x9, rfl, hq9⟩ : ∃ x9, v = some (.int x9) ∧ ((D.2.2.2.1 = 150 ∧ x9 = -3 ∧ h4 = h3) ∨ (D.2.2.2.1 < 150 ∧ x9 = nI D.2.2.2.1 ∧ AdQ 41 D.2.2.2.1 A.2.2.2.2.1 h1.2.2.2.2 A.2.1 h3 h4)) := by
            rcases hq with ⟨g1, rfl, g3⟩ | ⟨g1, rfl, g3⟩
            · exact ⟨_, rfl, Or.inl ⟨g1, rfl, g3⟩⟩
            · exact ⟨_, rfl, Or.inr ⟨g1, rfl, g3⟩⟩
          refine kx_iret (pc := 83) rfl (kx_dd d_Tc_paper 42 rfl) (Nat.le_of_ble_eq_true rfl) (Nat.le_of_ble_eq_true rfl) ?_
          rcases hq9 with ⟨g1, rfl, rfl⟩ | ⟨g1, rfl, hz⟩
          · have eR : papR D td (oneW b n) (nI a9) b2 (nI c9) = (-3, D) := by unfold papR; rw [if_pos hcl, if_neg c54, if_pos g1]
            show CcQ _ _ _ _
            rw [eR]
            exact ⟨rfl, e13, ⟨A, hp3, hx3⟩, hgB, by omega⟩
          · have eR : papR D td (oneW b n) (nI a9) b2 (nI c9) = (nI D.2.2.2.1, addP D a9 (oneW b n) i9 c9 td) := by unfold papR; rw [if_pos hcl, if_neg c54, if_neg (by omega), nI_clamp (by omega), nI_clamp (by omega), hi3]
            show CcQ _ _ _ _
            rw [eR]
            have hg4 := hz.gw (Or.inr rfl) hx3.2.2.1.ge
            obtain ⟨-, -, -, -, -, c4, c5, k6⟩ := id hz
            exact ⟨rfl, (((k6 1 (Or.inl (by omega))).2 1).1 (by omega)).trans e13, hp3.addP ha9 hx3 (by omega) (by omega) (by omega) k3 q3 q4 (q5.trans hi2) q6 q7 hz, hgB.tr hg4, by omega⟩
        · refine kx_iconst (pc := 57) (v := -1) (kx_dd d_Tc_paper 28 rfl) rfl ?_
          refine kx_iret (pc := 58) rfl (kx_dd d_Tc_paper 29 rfl) (Nat.le_of_ble_eq_true rfl) (Nat.le_of_ble_eq_true rfl) ?_
          rw [show (0 : Int64) = lN 0 from rfl, lcmp0 hwl (by decide)] at c54
          have eR : papR D td (oneW b n) (nI a9) b2 (nI c9) = (-1, D) := by unfold papR; rw [if_pos hcl, if_pos c54]
          show CcQ _ _ _ _
          rw [eR]
          exact ⟨rfl, e11, ⟨A, hp1, hx1⟩, hgA, by omega⟩
      · refine kx_bipush (pc := 47) (v := -2) (kx_dd d_Tc_paper 22 rfl) rfl ?_
        refine kx_iret (pc := 49) rfl (kx_dd d_Tc_paper 23 rfl) (Nat.le_of_ble_eq_true rfl) (Nat.le_of_ble_eq_true rfl) ?_
        have eR : papR D td (oneW b n) (nI a9) b2 c = (-2, D) := if_neg (fun x => x.2.1.elim c33 (bP_0.mp c44))
        show CcQ _ _ _ _
        rw [eR]
        exact ⟨rfl, e11, ⟨A, hp1, hx1⟩, hgA, by omega⟩
theorem x_Tc_paperN {l : Launch} {g : kx_G} {d : Nat} {h : kx_Mem} (hs : SC h) (b : Nat → Int32) (n : Nat) (ht : TapC b n h) (D : DK) (A : DA) (ho : DKok D) (hp : DKc D A h) (hx : DAx D A h) (hN : h.2.2.2.2 + 2 < 1000000) (td : Nat) (hck : h.1 0 9 = nI td) (a b2 c : Int32) (hna : ¬ (0 ≤ a ∧ a < nI D.2.2.1.1)) : kx_Sp l g m_Tc_paper [.ref 0, .int a, .int b2, .int c] h (d + 8) 2 500 (fun v h' => CcQ (papR D td (oneW b n) a b2 c) h v h') := by
  have oP := ho.1.1
  have oT := ho.2.1.1
  have oC := ho.2.2.1.1
  have oF := ho.2.2.2.1
  have hwl := oneW_lt b n
  refine kx_enter_e (lv := [_, _, _, _, _, _, _]) (by decide +kernel) (Nat.le_of_ble_eq_true rfl) rfl ?_
  refine kx_aload_n (pc := 0) (kx_dd d_Tc_paper 0 rfl) rfl rfl ?_
  refine kx_getR (pc := 1) (b := 1) fl_Tc_10 (hs.k 0 rfl) rfl (hs.r 0 rfl) (kx_dd d_Tc_paper 1 rfl) ?_
  refine kx_invV (pc := 4) (a := 1) (as := []) (kx_dd d_Tc_paper 2 rfl) ⟨lk_Tc_158, wi_Ta_takeWord, we_Ta_takeWord⟩ w_Ta_takeWord (hs.k 1 rfl) rfl rfl rfl rfl (Nat.le_of_ble_eq_true rfl) (x_Ta_takeWord (d := d + 4) hs b n ht) (Nat.le_refl _) ⟨Nat.le_of_ble_eq_true rfl, Nat.le_of_ble_eq_true rfl⟩ (fun v h' hq => ?_)
  revert h'
  intro h1 hq
  obtain ⟨rfl, hf1, e11⟩ := hq
  have hs : SC h1 := hs.fg hf1
  have ec1 : h1.2.2 = h.2.2 := hf1.2.2
  have hgA : kx_Gw FcP FtL FcZ h h1 := hf1.gw.mono (fun a j z => Or.inl z) (fun a j z => z) (fun a j (z : False) => z.elim)
  have hp1 : DKc D A h1 := hp.fgx hf1 (fun a j z => ⟨by omega, by unfold FtL; omega⟩)
  have hx1 : DAx D A h1 := hx.gw hgA
  have hN1 : h1.2.2.2.2 + 2 < 1000000 := by rw [ec1]; exact hN
  have hck1 : h1.1 0 9 = nI td := (hf1.1 0 9 (by omega)).trans hck
  have ecn : h1.2.2.2.2 = h.2.2.2.2 := by rw [ec1]
  have oI := hx1.1
  refine kx_lstore_e (pc := 7) (lv' := [_, _, _, _, _, _, _]) (kx_dd d_Tc_paper 3 rfl) (Nat.le_of_ble_eq_true rfl) rfl ?_
  refine kx_aload_n (pc := 9) (kx_dd d_Tc_paper 4 rfl) rfl rfl ?_
  refine kx_getR (pc := 10) (b := 39) fl_Tc_57 (hs.k 0 rfl) rfl (hs.r 6 rfl) (kx_dd d_Tc_paper 5 rfl) ?_
  refine kx_iload_n (pc := 13) (kx_dd d_Tc_paper 6 rfl) rfl rfl ?_
  refine kx_invV (pc := 14) (a := 39) (as := [_]) (kx_dd d_Tc_paper 7 rfl) ⟨lk_Tc_190, wi_Do_claimAt, we_Do_claimAt⟩ w_Do_claimAt (hs.k 39 rfl) rfl rfl rfl rfl (Nat.le_of_ble_eq_true rfl) (x_Do_claimAtN (d := d + 6) hs D A ho hp1 a hna) (Nat.le_refl _) ⟨Nat.le_of_ble_eq_true rfl, Nat.le_of_ble_eq_true rfl⟩ (fun v h' hq => ?_)
  obtain ⟨rfl, he⟩ := hq
  rw [he]
  clear he
  refine kx_astore_eN (pc := 17) (lv' := [_, _, _, _, _, _, _]) (kx_dd d_Tc_paper 8 rfl) (Nat.le_of_ble_eq_true rfl) rfl ?_
  refine kx_aloadN (pc := 19) (kx_dd d_Tc_paper 9 rfl) rfl ?_
  refine kx_ifnullN (pc := 21) (tgt := 47) (kx_dd d_Tc_paper 10 rfl) rfl ?_
  refine kx_bipush (pc := 47) (v := -2) (kx_dd d_Tc_paper 22 rfl) rfl ?_
  refine kx_iret (pc := 49) rfl (kx_dd d_Tc_paper 23 rfl) (Nat.le_of_ble_eq_true rfl) (Nat.le_of_ble_eq_true rfl) ?_
  have eR : papR D td (oneW b n) a b2 c = (-2, D) := if_neg (fun x => hna x.1)
  show CcQ _ _ _ _
  rw [eR]
  exact ⟨rfl, e11, ⟨A, hp1, hx1⟩, hgA, by omega⟩
theorem x_Tc_paper {l : Launch} {g : kx_G} {d : Nat} {h : kx_Mem} (hs : SC h) (b : Nat → Int32) (n : Nat) (ht : TapC b n h) (D : DK) (A : DA) (ho : DKok D) (hp : DKc D A h) (hx : DAx D A h) (hN : h.2.2.2.2 + 2 < 1000000) (td : Nat) (hck : h.1 0 9 = nI td) (a b2 c : Int32) : kx_Sp l g m_Tc_paper [.ref 0, .int a, .int b2, .int c] h (d + 8) 2 500 (fun v h' => CcQ (papR D td (oneW b n) a b2 c) h v h') := by
  by_cases ha : 0 ≤ a ∧ a < nI D.2.2.1.1
  · obtain ⟨a9, ha9, rfl⟩ := valP (n := D.2.2.1.1) (by have := ho.2.2.1.1; omega) ha
    exact x_Tc_paperY hs b n ht D A ho hp hx hN td hck a9 ha9 b2 c
  · exact x_Tc_paperN hs b n ht D A ho hp hx hN td hck a b2 c ha
