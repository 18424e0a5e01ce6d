/-! the reference: readAll -/
theorem ordG_ge {b : Nat → Int32} {n : Nat} : ∀ f i L, i ≤ n → ∀ q, ordG b n f i L = .inr q → i ≤ q.2
  | 0, i, L, _, q, h => by unfold ordG at h; cases h
  | f + 1, i, L, hi, q, h => by
    unfold ordG at h
    cases hch : chO b n i nm4 with
    | none =>
      rw [hch] at h
      simp only at h
      split at h
      · cases h
      · cases h; exact Nat.le_refl _
    | some q4 =>
      rw [hch] at h
      simp only at h
      split at h
      · cases h
      · have h1 := tE_n (b := b) hi
        have := ordG_ge f _ _ h1.1 q h
        omega
theorem bdF_ge {c : Nat} {b : Nat → Int32} {n i : Nat} {r : RU} {q : RU × Nat} (hi0 : i ≤ n) (h : bdF c b n i r = .inr q) : i ≤ q.2 := by
  unfold bdF at h
  by_cases e : c = 9
  · rw [if_pos e] at h
    cases hG : ordG b n 5 i [] with
    | inl g => rw [hG] at h; cases h
    | inr x => rw [hG] at h; cases h; exact ordG_ge _ _ _ hi0 x hG
  · rw [if_neg e] at h
    exact (bodF_ge hi0 h).1
theorem mnF_ge {b : Nat → Int32} {n i : Nat} {r : RU} {q : RU × Nat} (hi0 : i ≤ n) (h : mnF b n i r = .inr q) : i ≤ q.2 := by
  unfold mnF at h
  cases hch : chO b n i nm0 with
  | none => rw [hch] at h; cases h
  | some c =>
    rw [hch] at h
    simp only at h
    split at h
    · cases h
    · have := bodF_ge (tE_n hi0).1 h
      have := tE_n (b := b) hi0
      omega
def onx (c : Nat) : Nat := ([0, 1, 2, 4, 5, 6, 7, 8, 9, 3] : List Nat).getD c 0
theorem onx_lt : ∀ c, c ≤ 9 → onx c < 10 := fun c h => (by decide : ∀ c, c < 10 → onx c < 10) c (by omega)
theorem onx_inj {c e : Nat} (hc : c ≤ 9) (he : e ≤ 9) : onx c = onx e → c = e := (by decide : ∀ c, c < 10 → ∀ e, e < 10 → onx c = onx e → c = e) c (by omega) e (by omega)
theorem onO_at {o : Option Nat} (h : onO o ≠ -1) : ∃ c, o = some c ∧ c ≤ 9 ∧ onO o = nI (onx c) := by
  cases o with
  | none => exact absurd rfl h
  | some c =>
    match c with
    | 0 | 1 | 2 | 3 | 4 | 5 | 6 | 7 | 8 | 9 => exact ⟨_, rfl, by decide, rfl⟩
    | m + 10 => exact absurd rfl h
theorem onO_no {c : Nat} (h : onO (some c) = -1) : 10 ≤ c := by
  rcases Nat.lt_or_ge c 10 with q | q
  · exact absurd h ((by decide : ∀ c, c < 10 → onO (some c) ≠ -1) c q)
  · exact q
theorem bit_or {td c k : Nat} : bitN (td ||| 2 ^ c) k = 1 ↔ bitN td k = 1 ∨ c = k := by
  rw [bitN_t, bitN_t, Nat.testBit_or, Nat.testBit_two_pow]
  cases td.testBit k <;> simp
theorem clF_mn {b : Nat → Int32} {n i td : Nat} {r : RU} (hon : onO (chO b n i nm0) = -1) : ∃ c, 10 ≤ c ∧ clF b n i r td = (match mnF b n i r with
  | .inl f => .inl f
  | .inr q => if tK b n q.2 = 3 then .inr (q.1, td ||| 2 ^ c, tE b n q.2) else .inl (1, tP b n q.2)) := by
  cases hch : chO b n i nm0 with
  | none =>
    refine ⟨10, Nat.le_refl _, ?_⟩
    unfold clF mnF
    rw [hch]
  | some c =>
    rw [hch] at hon
    have hc := onO_no hon
    refine ⟨c, hc, ?_⟩
    have h1 : ¬ (c ≤ 9 ∧ bitN td c = 1) := fun z => by omega
    by_cases hf : fulP r c
    · rw [mnF_ful hch hf]
      unfold clF
      rw [hch]
      exact (if_neg h1).trans (if_pos hf)
    · rw [mnF_bod hch hf, clF_bd hch h1 hf]
      unfold bdF
      rw [if_neg (by omega)]
      cases bodF c b n (tE b n i) r <;> rfl
theorem rdG_e {b : Nat → Int32} {n f i td cnt : Nat} {r : RU} (h : tK b n i = 0) : rdF b n (f + 1) i r td cnt = .inr (r, cnt) := if_pos h
theorem rdG_z {b : Nat → Int32} {n f i td cnt : Nat} {r : RU} {f0 : Fa} (h : ¬ tK b n i = 0) (hc : clF b n i r td = .inl f0) : rdF b n (f + 1) i r td cnt = .inl f0 := by
  unfold rdF
  rw [if_neg h, hc]
theorem rdG_s {b : Nat → Int32} {n f i td cnt : Nat} {r : RU} {q : RU × Nat × Nat} (h : ¬ tK b n i = 0) (hc : clF b n i r td = .inr q) : rdF b n (f + 1) i r td cnt = rdF b n f q.2.2 q.1 q.2.1 (cnt + 1) := by
  conv => lhs; unfold rdF
  rw [if_neg h, hc]
def FrA (a j : Nat) : Prop := FrD a j ∨ a = 104
theorem kx_Fc.fa {h h' : kx_Mem} (hf : kx_Fc FrD h h') : kx_Fn FrA h h' := (hf.mono (fun a j q => Or.inl q)).n
/-- what a fault leaves behind -/
def ZA (f : Fa) (nw : Nat) (T : Nat → Nat) (z : Nat) (h h' : kx_Mem) : Prop := ∃ nw' T', FaM f h' ∧ WTok nw' T' ∧ WTm nw' T' h' ∧ WEx nw T nw' T' ∧ wz nw' T' ≤ z ∧ kx_Fn FrA h h'
theorem ZA.of {f : Fa} {nw nw0 z B C : Nat} {T T0 : Nat → Nat} {h0 h h' : kx_Mem} (a : ZF f nw T z h h') (he : WEx nw0 T0 nw T) (hf : kx_Fn FrA h0 h) (hc : h.2.2.2.2 = C) (hB : 16 * z ≤ B) : ∃ z', 16 * z' ≤ B ∧ ZA f nw0 T0 z' h0 h' ∧ h'.2.2.2.2 = C := by
  obtain ⟨n2, T2, a1, a2, a3, a4, a5, a6⟩ := a
  exact ⟨z, hB, ⟨n2, T2, a1, a2, a3, he.tr a4, a5, hf.tr (kx_Fc.fa a6)⟩, by rw [a6.1]; exact hc⟩
theorem y_onceA {l : Launch} {g : kx_G} {d : Nat} {h : kx_Mem} (b : Nat → Int32) (n i : Nat) (r : RU) (nw : Nat) (T : Nat → Nat) (z : Nat) (hR : RM b n i r (wfl r) nw T z h) (c : Nat) (hc : c ≤ 9) : kt_Sp l g m_Mo_readOnce [.ref 84, .int (nI (onx c))] h (d + 9) 0 0 (fun v h' => ∃ q, bdF c b n i r = .inr q ∧ v = none ∧ RM b n q.2 q.1 (wfl q.1) nw T z h' ∧ kx_Fc FrD h h') (fun h' => ∃ f, bdF c b n i r = .inl f ∧ ZF f nw T z h h') := by
  match c, hc with
  | 0, _ => exact y_once0 (d := d) b n i r nw T z hR
  | 1, _ => exact y_once1 (d := d) b n i r nw T z hR
  | 2, _ => exact y_once2 (d := d) b n i r nw T z hR
  | 3, _ => exact y_once4 (d := d) b n i r nw T z hR
  | 4, _ => exact y_once5 (d := d) b n i r nw T z hR
  | 5, _ => exact y_once6 (d := d) b n i r nw T z hR
  | 6, _ => exact y_once7 (d := d) b n i r nw T z hR
  | 7, _ => exact y_once8 (d := d) b n i r nw T z hR
  | 8, _ => exact y_once9 (d := d) b n i r nw T z hR
  | 9, _ => exact y_once3 (d := d) b n i r nw T z hR
  | m + 10, hc => exact absurd hc (by omega)
theorem y_ra31 {l : Launch} {g : kx_G} {d : Nat} {h0 : kx_Mem} (b : Nat → Int32) (n : Nat) (nw0 : Nat) (T0 : Nat → Nat) (z0 C : Nat) (R9 : Fa ⊕ (RU × Nat)) (hzn : 16 * z0 + 3 * n < 31312) : ∀ f i r td cnt nw T z h w2, n + 1 ≤ i + f → RM b n i r (wfl r) nw T z h → WEx nw0 T0 nw T → 16 * z ≤ 16 * z0 + 3 * i → (∀ c, c ≤ 9 → h.1 104 (onx c) = bP (bitN td c = 1)) → kx_Fn FrA h0 h → h.2.2.2.2 = C → rdF b n f i r td cnt = R9 → kt_X (l, g, m_Mo_readAll, d + 10, 1, 11, (fun v h' => ∃ q, R9 = .inr q ∧ v = some (.int (nI q.2)) ∧ ∃ i' nw' T' z', WEx nw0 T0 nw' T' ∧ RM b n i' q.1 (wfl q.1) nw' T' z' h' ∧ kx_Fn FrA h0 h' ∧ h'.2.2.2.2 = C ∧ 16 * z' ≤ 16 * z0 + 3 * n), (fun h' => ∃ f, R9 = .inl f ∧ ∃ z', 16 * z' ≤ 16 * z0 + 3 * n + 48 ∧ ZA f nw0 T0 z' h0 h' ∧ h'.2.2.2.2 = C), []) 1 11 31 [some (.ref 84), some (.int (nI cnt)), w2] [] h := by
  intro f
  induction f with
  | zero =>
    intro i r td cnt nw T z h w2 hfu hR
    have := hR.2.2.1
    omega
  | succ f ih =>
    intro i r td cnt nw T z h w2 hfu hR hex hzi htd hf hC he
    have hm := hR.1
    have hin := hR.2.2.1
    have hki := tK_le (b := b) (n := n) (i := i)
    obtain ⟨k1, k2, k3, k4⟩ := id hR.2.2.2.1
    have ho := hR.2.2.2.2.1
    have o16 := ho.1
    have hn6 := hR.2.1.1.2.1
    refine kt_aload_n (pc := 31) (kx_dd d_Mo_readAll 19 rfl) rfl rfl ?_
    refine kt_getI (pc := 32) fl_Mo_50 (hm.k 0 rfl) rfl (kx_dd d_Mo_readAll 20 rfl) ?_
    refine kt_if_eq (pc := 35) (tgt := 110) (kx_dd d_Mo_readAll 21 rfl) rfl (fun c35 => ?_) (fun c35 => ?_)
    · rw [k2, show (0 : Int32) = nI 0 from rfl, nI_eq (by omega) (by decide)] at c35
      refine kt_iload_n (pc := 110) (kx_dd d_Mo_readAll 62 rfl) rfl rfl ?_
      refine kt_ofX (kx_iret (pc := 111) rfl (kx_dd d_Mo_readAll 63 rfl) (Nat.le_refl _) (Nat.le_refl _) ?_)
      exact ⟨_, he.symm.trans (rdG_e c35), rfl, i, nw, T, z, hex, hR, hf, hC, by omega⟩
    · rw [k2, show (0 : Int32) = nI 0 from rfl, nI_eq (by omega) (by decide)] at c35
      refine kt_aload_n (pc := 38) (kx_dd d_Mo_readAll 22 rfl) rfl rfl ?_
      refine kt_invV (pc := 39) (a := 84) (as := []) (kx_dd d_Mo_readAll 23 rfl) ⟨lk_Mo_146, wi_Mo_once, we_Mo_once⟩ w_Mo_once (hm.k 0 rfl) rfl rfl rfl rfl (Nat.le_of_ble_eq_true rfl) (y_once (d := d + 4) b n i r _ nw T z hR) (Nat.le_refl _) ⟨Nat.le_refl _, Nat.le_refl _⟩ (fun v h' hq => ?_)
      obtain ⟨rfl, he⟩ := hq
      rw [he]
      clear he
      refine kt_istore_ne (pc := 42) (lv' := [_, _, _]) (kx_dd d_Mo_readAll 24 rfl) rfl (Nat.le_of_ble_eq_true rfl) rfl ?_
      refine kt_iload_n (pc := 43) (kx_dd d_Mo_readAll 25 rfl) rfl rfl ?_
      refine kt_iconst (pc := 44) (v := -1) (kx_dd d_Mo_readAll 26 rfl) rfl ?_
      refine kt_icmp_eq (pc := 45) (tgt := 82) (kx_dd d_Mo_readAll 27 rfl) rfl (fun c45 => ?_) (fun c45 => ?_)
      · obtain ⟨c8, hc8, hcl⟩ := clF_mn (r := r) (td := td) c45
        refine kt_aload_n (pc := 82) (kx_dd d_Mo_readAll 48 rfl) rfl rfl ?_
        refine kt_invT (a := 84) (as := []) (kx_dd d_Mo_readAll 49 rfl) lm_Mo_152 wi_Mo_readMany we_Mo_readMany w_Mo_readMany (hm.k 0 rfl) rfl rfl rfl rfl (Nat.le_of_ble_eq_true rfl) (y_readMany (d := d + 4) b n i r nw T z hR (by omega) c45) (Nat.le_refl _) ⟨Nat.le_refl _, Nat.le_refl _⟩ (fun v h' hq => ?_) (fun h' hz => Or.inl ⟨rfl, (by obtain ⟨f0, y1, y2⟩ := hz; rw [y1] at hcl; exact ⟨f0, he.symm.trans (rdG_z c35 hcl), ZA.of y2 hex hf hC (by omega)⟩)⟩)
        revert h'
        intro h3 hq
        obtain ⟨q9, hB, rfl, nw3, T3, z3, hx3, hR3, hF3, hz3⟩ := hq
        have hm := hR3.1
        obtain ⟨k31, k32, k33, k34⟩ := id hR3.2.2.2.1
        have hki3 := tK_le (b := b) (n := n) (i := q9.2)
        have hf3 : kx_Fn FrA h0 h3 := hf.tr (kx_Fc.fa hF3)
        have hC3 : h3.2.2.2.2 = C := by rw [hF3.1]; exact hC
        rw [hB] at hcl
        simp only at hcl
        have hge := mnF_ge hin hB
        refine kt_aload_n (pc := 86) (kx_dd d_Mo_readAll 50 rfl) rfl rfl ?_
        refine kt_getI (pc := 87) fl_Mo_50 (hm.k 0 rfl) rfl (kx_dd d_Mo_readAll 51 rfl) ?_
        refine kt_iconst (pc := 90) (v := 3) (kx_dd d_Mo_readAll 52 rfl) rfl ?_
        refine kt_icmp_eq (pc := 91) (tgt := 100) (kx_dd d_Mo_readAll 53 rfl) rfl (fun c91 => ?_) (fun c91 => ?_)
        · rw [k32, show (3 : Int32) = nI 3 from rfl, nI_eq (by omega) (by decide)] at c91
          refine kt_aload_n (pc := 100) (kx_dd d_Mo_readAll 58 rfl) rfl rfl ?_
          refine kt_invV (pc := 101) (a := 84) (as := []) (kx_dd d_Mo_readAll 59 rfl) ⟨lk_Mo_77, wi_Mo_scan, we_Mo_scan⟩ w_Mo_scan (hm.k 0 rfl) rfl rfl rfl rfl (Nat.le_of_ble_eq_true rfl) (y_scan (d := d + 8) hR3.1 b n (tE b n q9.2) hR3.2.1.1 hR3.2.1.2 (tE_n hR3.2.2.1).1 hR3.2.2.2.1.1) (Nat.le_refl _) ⟨Nat.le_refl _, Nat.le_refl _⟩ (fun v h' hq => ?_)
          revert h'
          intro h4 hq
          obtain ⟨rfl, hts9, hfs9⟩ := hq
          have hR4 := hR3.scan hts9 hfs9
          have hF4 : kx_Fc FrD h3 h4 := kx_Fc.fs hfs9
          have hm := hR4.1
          refine kt_iinc_e (pc := 104) (v := nI (cnt + 1)) (lv' := [_, _, _]) (kx_dd d_Mo_readAll 60 rfl) rfl (Nat.le_of_ble_eq_true rfl) (nI_1 cnt) rfl ?_
          refine kt_goto (pc := 107) (tgt := 31) (kx_dd d_Mo_readAll 61 rfl) rfl ?_
          rw [if_pos c91] at hcl
          have hlt := tK_0 hR3.2.2.1 (b := b) (i := q9.2) (by omega)
          have e104 : ∀ j, h4.1 104 j = h3.1 104 j := fun j => hfs9.2 104 j (by simp [FsM])
          refine ih (tE b n q9.2) q9.1 (td ||| 2 ^ c8) (cnt + 1) nw3 T3 z3 h4 _ (by omega) hR4 (hex.tr hx3) (by omega) (fun c hc => ?_) (hf3.tr (kx_Fc.fa hF4)) (by rw [hF4.1]; exact hC3) ((rdG_s c35 hcl).symm.trans he)
          rw [e104, hF3.2 104 _ (by unfold FrD; omega), htd c hc]
          exact bP_c ⟨fun q => bit_or.mpr (Or.inl q), fun q => (bit_or.mp q).resolve_right (by omega)⟩
        · refine kt_aload_n (pc := 94) (kx_dd d_Mo_readAll 54 rfl) rfl rfl ?_
          refine kt_iconst (pc := 95) (v := 1) (kx_dd d_Mo_readAll 55 rfl) rfl ?_
          refine kt_invV (pc := 96) (a := 84) (as := [_]) (kx_dd d_Mo_readAll 56 rfl) ⟨lk_Mo_73, wi_Mo_wrong, we_Mo_wrong⟩ w_Mo_wrong (hm.k 0 rfl) rfl rfl rfl rfl (Nat.le_of_ble_eq_true rfl) (y_wrong (d := d + 9) hm (nI 1)) (Nat.le_refl _) ⟨Nat.le_refl _, Nat.le_refl _⟩ (fun v h' hq => ?_)
          revert h'
          intro h9 hq
          obtain ⟨rfl, rfl⟩ := hq
          refine kt_athrow (kx_dd d_Mo_readAll 57 rfl) rfl (Nat.le_refl _) (Nat.le_refl _) ?_
          rw [k32, show (3 : Int32) = nI 3 from rfl, nI_eq (by omega) (by decide)] at c91
          rw [if_neg c91] at hcl
          have hn3 := hR3.2.2.1
          exact ⟨_, he.symm.trans (rdG_z c35 hcl), ZA.of (hR3.fau 1) (hex.tr hx3) hf3 hC3 (by omega)⟩
      · obtain ⟨c9, hc9, h9c, eon⟩ := onO_at c45
        rw [eon]
        have h9x := onx_lt c9 h9c
        refine kt_aload_n (pc := 48) (kx_dd d_Mo_readAll 28 rfl) rfl rfl ?_
        refine kt_getR (pc := 49) (b := 104) fl_Mo_143 (hm.k 0 rfl) rfl (hm.r 19 rfl) (kx_dd d_Mo_readAll 29 rfl) ?_
        refine kt_iload_n (pc := 52) (kx_dd d_Mo_readAll 30 rfl) rfl rfl ?_
        refine kt_zaldn (pc := 53) (onx c9) (hm.t 20 rfl) rfl h9x (by decide) (kx_dd d_Mo_readAll 31 rfl) ?_
        refine kt_if_eq (pc := 54) (tgt := 63) (kx_dd d_Mo_readAll 32 rfl) rfl (fun c54 => ?_) (fun c54 => ?_)
        · refine kt_aload_n (pc := 63) (kx_dd d_Mo_readAll 37 rfl) rfl rfl ?_
          refine kt_getR (pc := 64) (b := 104) fl_Mo_143 (hm.k 0 rfl) rfl (hm.r 19 rfl) (kx_dd d_Mo_readAll 38 rfl) ?_
          refine kt_iload_n (pc := 67) (kx_dd d_Mo_readAll 39 rfl) rfl rfl ?_
          refine kt_iconst (pc := 68) (v := 1) (kx_dd d_Mo_readAll 40 rfl) rfl ?_
          refine kt_zastn (pc := 69) (onx c9) (hm.t 20 rfl) (by decide) rfl h9x (by decide) (kx_dd d_Mo_readAll 41 rfl) ?_
          have hf9 : kx_Fc (fun a j => a = 104) h (kx_setI h 104 (onx c9) 1) := kx_Fc.set rfl
          have hR1 : RM b n i r (wfl r) nw T z (kx_setI h 104 (onx c9) 1) := hR.put (hf9.mono (fun a j q => by omega)) hR.2.2.2.2.1 (hR.2.2.2.2.2.1.fm hf9 (fun a j q1 q2 => by omega)) (fun k hk => (hf9.2 105 k (by omega)).trans (hR.2.2.2.2.2.2.2.1 k hk))
          have hm := hR1.1
          have hfS : kx_Fn FrA h0 (kx_setI h 104 (onx c9) 1) := hf.tr (hf9.mono (fun a j q => Or.inr q)).n
          rw [htd c9 h9c, bP_0] at c54
          have hclb := fun (q : ¬ fulP r c9) => clF_bd (td := td) hc9 (fun x => c54 x.2) q
          have hcl := hclb (by unfold fulP; omega)
          refine kt_aload_n (pc := 70) (kx_dd d_Mo_readAll 42 rfl) rfl rfl ?_
          refine kt_invV (pc := 71) (a := 84) (as := []) (kx_dd d_Mo_readAll 43 rfl) ⟨lk_Mo_77, wi_Mo_scan, we_Mo_scan⟩ w_Mo_scan (hm.k 0 rfl) rfl rfl rfl rfl (Nat.le_of_ble_eq_true rfl) (y_scan (d := d + 8) hR1.1 b n (tE b n i) hR1.2.1.1 hR1.2.1.2 (tE_n hR1.2.2.1).1 hR1.2.2.2.1.1) (Nat.le_refl _) ⟨Nat.le_refl _, Nat.le_refl _⟩ (fun v h' hq => ?_)
          revert h'
          intro h2 hq
          obtain ⟨rfl, hts9, hfs9⟩ := hq
          have hR2 := hR1.scan hts9 hfs9
          have hF2 : kx_Fc FrD (kx_setI h 104 (onx c9) 1) h2 := kx_Fc.fs hfs9
          have hm := hR2.1
          refine kt_aload_n (pc := 74) (kx_dd d_Mo_readAll 44 rfl) rfl rfl ?_
          refine kt_iload_n (pc := 75) (kx_dd d_Mo_readAll 45 rfl) rfl rfl ?_
          refine kt_invT (a := 84) (as := [_]) (kx_dd d_Mo_readAll 46 rfl) lm_Mo_149 wi_Mo_readOnce we_Mo_readOnce w_Mo_readOnce (hm.k 0 rfl) rfl rfl rfl rfl (Nat.le_of_ble_eq_true rfl) (y_onceA (d := d) b n (tE b n i) r nw T z hR2 c9 h9c) (Nat.le_refl _) ⟨Nat.le_refl _, Nat.le_refl _⟩ (fun v h' hq => ?_) (fun h' hz => Or.inl ⟨rfl, (by obtain ⟨f0, y1, y2⟩ := hz; rw [y1] at hcl; exact ⟨f0, he.symm.trans (rdG_z c35 hcl), ZA.of y2 hex (hfS.tr (kx_Fc.fa hF2)) (by rw [hF2.1]; exact hC) (by omega)⟩)⟩)
          revert h'
          intro h3 hq
          obtain ⟨q9, hB, rfl, hR3, hF3⟩ := hq
          have hm := hR3.1
          obtain ⟨k31, k32, k33, k34⟩ := id hR3.2.2.2.1
          have hki3 := tK_le (b := b) (n := n) (i := q9.2)
          have hf3 : kx_Fn FrA h0 h3 := (hfS.tr (kx_Fc.fa hF2)).tr (kx_Fc.fa hF3)
          have hC3 : h3.2.2.2.2 = C := by rw [hF3.1, hF2.1]; exact hC
          rw [hB] at hcl
          simp only at hcl
          have hge := bdF_ge hR2.2.2.1 hB
          have hti := tK_0 hin c35
          refine kt_goto (pc := 79) (tgt := 86) (kx_dd d_Mo_readAll 47 rfl) rfl ?_
          refine kt_aload_n (pc := 86) (kx_dd d_Mo_readAll 50 rfl) rfl rfl ?_
          refine kt_getI (pc := 87) fl_Mo_50 (hm.k 0 rfl) rfl (kx_dd d_Mo_readAll 51 rfl) ?_
          refine kt_iconst (pc := 90) (v := 3) (kx_dd d_Mo_readAll 52 rfl) rfl ?_
          refine kt_icmp_eq (pc := 91) (tgt := 100) (kx_dd d_Mo_readAll 53 rfl) rfl (fun c91 => ?_) (fun c91 => ?_)
          · rw [k32, show (3 : Int32) = nI 3 from rfl, nI_eq (by omega) (by decide)] at c91
            refine kt_aload_n (pc := 100) (kx_dd d_Mo_readAll 58 rfl) rfl rfl ?_
            refine kt_invV (pc := 101) (a := 84) (as := []) (kx_dd d_Mo_readAll 59 rfl) ⟨lk_Mo_77, wi_Mo_scan, we_Mo_scan⟩ w_Mo_scan (hm.k 0 rfl) rfl rfl rfl rfl (Nat.le_of_ble_eq_true rfl) (y_scan (d := d + 8) hR3.1 b n (tE b n q9.2) hR3.2.1.1 hR3.2.1.2 (tE_n hR3.2.2.1).1 hR3.2.2.2.1.1) (Nat.le_refl _) ⟨Nat.le_refl _, Nat.le_refl _⟩ (fun v h' hq => ?_)
            revert h'
            intro h4 hq
            obtain ⟨rfl, hts9, hfs9⟩ := hq
            have hR4 := hR3.scan hts9 hfs9
            have hF4 : kx_Fc FrD h3 h4 := kx_Fc.fs hfs9
            have hm := hR4.1
            refine kt_iinc_e (pc := 104) (v := nI (cnt + 1)) (lv' := [_, _, _]) (kx_dd d_Mo_readAll 60 rfl) rfl (Nat.le_of_ble_eq_true rfl) (nI_1 cnt) rfl ?_
            refine kt_goto (pc := 107) (tgt := 31) (kx_dd d_Mo_readAll 61 rfl) rfl ?_
            rw [if_pos c91] at hcl
            have hlt := tK_0 hR3.2.2.1 (b := b) (i := q9.2) (by omega)
            have e104 : ∀ j, h4.1 104 j = h3.1 104 j := fun j => hfs9.2 104 j (by simp [FsM])
            refine ih (tE b n q9.2) q9.1 (td ||| 2 ^ c9) (cnt + 1) nw T z h4 _ (by omega) hR4 hex (by omega) (fun c hc => ?_) (hf3.tr (kx_Fc.fa hF4)) (by rw [hF4.1]; exact hC3) ((rdG_s c35 hcl).symm.trans he)
            rw [e104, hF3.2 104 _ (by unfold FrD; omega), hF2.2 104 _ (by unfold FrD; omega)]
            by_cases e : c = c9
            · rw [e, setI_at, bP_t (bit_or.mpr (Or.inr rfl))]
            · rw [setI_ne (Or.inr (fun q => e (onx_inj hc h9c q))), htd c hc]
              exact bP_c ⟨fun q => bit_or.mpr (Or.inl q), fun q => (bit_or.mp q).resolve_right (fun x => e x.symm)⟩
          · refine kt_aload_n (pc := 94) (kx_dd d_Mo_readAll 54 rfl) rfl rfl ?_
            refine kt_iconst (pc := 95) (v := 1) (kx_dd d_Mo_readAll 55 rfl) rfl ?_
            refine kt_invV (pc := 96) (a := 84) (as := [_]) (kx_dd d_Mo_readAll 56 rfl) ⟨lk_Mo_73, wi_Mo_wrong, we_Mo_wrong⟩ w_Mo_wrong (hm.k 0 rfl) rfl rfl rfl rfl (Nat.le_of_ble_eq_true rfl) (y_wrong (d := d + 9) hm (nI 1)) (Nat.le_refl _) ⟨Nat.le_refl _, Nat.le_refl _⟩ (fun v h' hq => ?_)
            revert h'
            intro h9 hq
            obtain ⟨rfl, rfl⟩ := hq
            refine kt_athrow (kx_dd d_Mo_readAll 57 rfl) rfl (Nat.le_refl _) (Nat.le_refl _) ?_
            rw [k32, show (3 : Int32) = nI 3 from rfl, nI_eq (by omega) (by decide)] at c91
            rw [if_neg c91] at hcl
            have hn3 := hR3.2.2.1
            exact ⟨_, he.symm.trans (rdG_z c35 hcl), ZA.of (hR3.fau 1) hex hf3 hC3 (by omega)⟩
        · refine kt_aload_n (pc := 57) (kx_dd d_Mo_readAll 33 rfl) rfl rfl ?_
          refine kt_iconst (pc := 58) (v := 3) (kx_dd d_Mo_readAll 34 rfl) rfl ?_
          refine kt_invV (pc := 59) (a := 84) (as := [_]) (kx_dd d_Mo_readAll 35 rfl) ⟨lk_Mo_73, wi_Mo_wrong, we_Mo_wrong⟩ w_Mo_wrong (hm.k 0 rfl) rfl rfl rfl rfl (Nat.le_of_ble_eq_true rfl) (y_wrong (d := d + 9) hm (nI 3)) (Nat.le_refl _) ⟨Nat.le_refl _, Nat.le_refl _⟩ (fun v h' hq => ?_)
          revert h'
          intro h9 hq
          obtain ⟨rfl, rfl⟩ := hq
          refine kt_athrow (kx_dd d_Mo_readAll 36 rfl) rfl (Nat.le_refl _) (Nat.le_refl _) ?_
          rw [htd c9 h9c, bP_0, Classical.not_not] at c54
          have hcl : clF b n i r td = .inl (3, tP b n i) := by
            unfold clF
            rw [hc9]
            exact if_pos ⟨h9c, c54⟩
          exact ⟨_, he.symm.trans (rdG_z c35 hcl), ZA.of (hR.fau 3) hex hf hC (by omega)⟩
theorem y_ra7 {l : Launch} {g : kx_G} {d : Nat} {h0 : kx_Mem} (b : Nat → Int32) (n : Nat) (nw0 : Nat) (T0 : Nat → Nat) (z0 C : Nat) (R9 : Fa ⊕ (RU × Nat)) (hzn : 16 * z0 + 3 * n < 31312) (hR9 : rdF b n (n + 1) 0 ru0 0 0 = R9) : ∀ f k, k + f = 10 → ∀ h, RM b n 0 ru0 (wfl ru0) nw0 T0 z0 h → (∀ j, j < k → h.1 104 j = 0) → kx_Fn FrA h0 h → h.2.2.2.2 = C → kt_X (l, g, m_Mo_readAll, d + 10, 1, 11, (fun v h' => ∃ q, R9 = .inr q ∧ v = some (.int (nI q.2)) ∧ ∃ i' nw' T' z', WEx nw0 T0 nw' T' ∧ RM b n i' q.1 (wfl q.1) nw' T' z' h' ∧ kx_Fn FrA h0 h' ∧ h'.2.2.2.2 = C ∧ 16 * z' ≤ 16 * z0 + 3 * n), (fun h' => ∃ f, R9 = .inl f ∧ ∃ z', 16 * z' ≤ 16 * z0 + 3 * n + 48 ∧ ZA f nw0 T0 z' h0 h' ∧ h'.2.2.2.2 = C), []) 1 11 7 [some (.ref 84), some (.int (nI k)), none] [] h := by
  intro f
  induction f with
  | zero =>
    intro k hk h hR h0k hf hC
    have hk4 : k = 10 := by omega
    subst hk4
    have hm := hR.1
    refine kt_iload_n (pc := 7) (kx_dd d_Mo_readAll 5 rfl) rfl rfl ?_
    refine kt_aload_n (pc := 8) (kx_dd d_Mo_readAll 6 rfl) rfl rfl ?_
    refine kt_getR (pc := 9) (b := 104) fl_Mo_143 (hm.k 0 rfl) rfl (hm.r 19 rfl) (kx_dd d_Mo_readAll 7 rfl) ?_
    refine kt_alen (pc := 12) (by rw [hm.t 20 rfl]; decide) (by rw [hm.t 20 rfl]) (kx_dd d_Mo_readAll 8 rfl) ?_
    refine kt_icmp_ge (pc := 13) (tgt := 29) (kx_dd d_Mo_readAll 9 rfl) rfl (fun c13 => ?_) (fun c13 => ?_)
    · refine kt_iconst (pc := 29) (v := 0) (kx_dd d_Mo_readAll 17 rfl) rfl ?_
      refine kt_istore_ne (pc := 30) (lv' := [_, _, _]) (kx_dd d_Mo_readAll 18 rfl) rfl (Nat.le_of_ble_eq_true rfl) rfl ?_
      exact y_ra31 b n nw0 T0 z0 C R9 hzn (n + 1) 0 ru0 0 0 nw0 T0 z0 h none (by omega) hR WEx.rf (by omega) (fun c hc => by rw [h0k _ (onx_lt c hc), bP_f (by unfold bitN; simp)]) hf hC hR9
    · exact absurd (by decide) c13
  | succ f ih =>
    intro k hk h hR h0k hf hC
    have hm := hR.1
    refine kt_iload_n (pc := 7) (kx_dd d_Mo_readAll 5 rfl) rfl rfl ?_
    refine kt_aload_n (pc := 8) (kx_dd d_Mo_readAll 6 rfl) rfl rfl ?_
    refine kt_getR (pc := 9) (b := 104) fl_Mo_143 (hm.k 0 rfl) rfl (hm.r 19 rfl) (kx_dd d_Mo_readAll 7 rfl) ?_
    refine kt_alen (pc := 12) (by rw [hm.t 20 rfl]; decide) (by rw [hm.t 20 rfl]) (kx_dd d_Mo_readAll 8 rfl) ?_
    refine kt_icmp_ge (pc := 13) (tgt := 29) (kx_dd d_Mo_readAll 9 rfl) rfl (fun c13 => ?_) (fun c13 => ?_)
    · exact absurd c13 (nI_ge (b := 10) (by omega) (by decide))
    · refine kt_aload_n (pc := 16) (kx_dd d_Mo_readAll 10 rfl) rfl rfl ?_
      refine kt_getR (pc := 17) (b := 104) fl_Mo_143 (hm.k 0 rfl) rfl (hm.r 19 rfl) (kx_dd d_Mo_readAll 11 rfl) ?_
      refine kt_iload_n (pc := 20) (kx_dd d_Mo_readAll 12 rfl) rfl rfl ?_
      refine kt_iconst (pc := 21) (v := 0) (kx_dd d_Mo_readAll 13 rfl) rfl ?_
      refine kt_zastn (pc := 22) k (hm.t 20 rfl) (by decide) rfl (by omega) (by decide) (kx_dd d_Mo_readAll 14 rfl) ?_
      refine kt_iinc_e (pc := 23) (v := nI (k + 1)) (lv' := [_, _, _]) (kx_dd d_Mo_readAll 15 rfl) rfl (Nat.le_of_ble_eq_true rfl) (nI_1 k) rfl ?_
      refine kt_goto (pc := 26) (tgt := 7) (kx_dd d_Mo_readAll 16 rfl) rfl ?_
      have hf9 : kx_Fc (fun a j => a = 104) h (kx_setI h 104 k (vp_nar .boolean 0)) := kx_Fc.set rfl
      refine ih (k + 1) (by omega) _ (hR.put (hf9.mono (fun a j q => by omega)) hR.2.2.2.2.1 (hR.2.2.2.2.2.1.fm hf9 (fun a j q1 q2 => by omega)) (fun k hk => (hf9.2 105 k (by omega)).trans (hR.2.2.2.2.2.2.2.1 k hk))) (fun j hj => ?_) (hf.tr (hf9.mono (fun a j q => Or.inr q)).n) hC
      by_cases e : j = k
      · rw [e]; exact setI_at
      · rw [setI_ne (Or.inr e)]; exact h0k j (by omega)
/-- a tape at its start, words, no fault -/
def RSt (b : Nat → Int32) (n nw : Nat) (T : Nat → Nat) (z : Nat) (h : kx_Mem) : Prop := SM h ∧ (TapM b n h ∧ BY b) ∧ TokM b n 0 h ∧ (WTok nw T ∧ WTm nw T h ∧ wz nw T ≤ z) ∧ h.1 84 11 = 0 ∧ h.1 84 12 = -1
theorem RSt.rm {b : Nat → Int32} {n nw : Nat} {T : Nat → Nat} {z : Nat} {h h' : kx_Mem} (hS : RSt b n nw T z h) (hN : 154 ≤ h.2.2.2.2) (hf : kx_Fn (FpV 4) h h') (hr : ∀ n T, RUm ru0 4 n T h') : RM b n 0 ru0 (wfl ru0) nw T z h' := by
  obtain ⟨h1, h2, h3, h4, h5, h6⟩ := hS
  have hc := hf.c hN
  have t1 : TapM b n (h'.1, h.2) := h2.1.fc hc (by unfold FpV; omega) (fun j => by unfold FpV; omega)
  have t2 : TokM b n 0 (h'.1, h.2) := h3.fc hc (fun j a b => by unfold FpV; omega)
  have t3 : WTm nw T (h'.1, h.2) := h4.2.1.fc hc (by unfold FpV; omega) (fun j => ⟨by unfold FpV; omega, by unfold FpV; omega⟩)
  exact ⟨SM_fn h1 hf hN, ⟨t1, h2.2⟩, Nat.zero_le _, t2, ru0_ok, hr nw T, ⟨h4.1, t3, h4.2.2⟩, fun k hk => absurd hk (Nat.not_lt_zero k), (hc.2 84 11 (by unfold FpV; omega)).trans h5, (hc.2 84 12 (by unfold FpV; omega)).trans h6⟩
theorem y_readAll {l : Launch} {g : kx_G} {d : Nat} {h : kx_Mem} (b : Nat → Int32) (n nw : Nat) (T : Nat → Nat) (z : Nat) (hS : RSt b n nw T z h) (hN2 : 154 ≤ h.2.2.2.2 ∧ h.2.2.2.2 < 1000000) (hzn : 16 * z + 3 * n < 31312) : kt_Sp l g m_Mo_readAll [.ref 84] h (d + 10) 1 11 (fun v h' => ∃ q, rdF b n (n + 1) 0 ru0 0 0 = .inr q ∧ v = some (.int (nI q.2)) ∧ ∃ i' nw' T' z', WEx nw T nw' T' ∧ RM b n i' q.1 (wfl q.1) nw' T' z' h' ∧ kx_Fn FrA h h' ∧ h'.2.2.2.2 = h.2.2.2.2 + 1 ∧ 16 * z' ≤ 16 * z + 3 * n) (fun h' => ∃ f, rdF b n (n + 1) 0 ru0 0 0 = .inl f ∧ ∃ z', 16 * z' ≤ 16 * z + 3 * n + 48 ∧ ZA f nw T z' h h' ∧ h'.2.2.2.2 = h.2.2.2.2 + 1) := by
  have hm := hS.1
  refine kt_enter (lv := [_, _, _]) (by decide +kernel) (Nat.le_of_ble_eq_true rfl) rfl ?_
  refine kt_aload_n (pc := 0) (kx_dd d_Mo_readAll 0 rfl) rfl rfl ?_
  refine kt_iconst (pc := 1) (v := 4) (kx_dd d_Mo_readAll 1 rfl) rfl ?_
  refine kt_invV (pc := 2) (a := 84) (as := [_]) (kx_dd d_Mo_readAll 2 rfl) ⟨lk_Mo_139, wi_Mo_plain, we_Mo_plain⟩ w_Mo_plain (hm.k 0 rfl) rfl rfl rfl rfl (Nat.le_of_ble_eq_true rfl) (y_plain (d := d + 9) hm hN2 4 (by decide)) (Nat.le_refl _) ⟨Nat.le_refl _, Nat.le_refl _⟩ (fun v h' hq => ?_)
  revert h'
  intro h1 hq
  obtain ⟨rfl, hf1, hc1, hr1⟩ := hq
  have hR := hS.rm hN2.1 hf1 hr1
  refine kt_iconst (pc := 5) (v := 0) (kx_dd d_Mo_readAll 3 rfl) rfl ?_
  refine kt_istore_ne (pc := 6) (lv' := [_, _, _]) (kx_dd d_Mo_readAll 4 rfl) rfl (Nat.le_of_ble_eq_true rfl) rfl ?_
  exact y_ra7 b n nw T z _ _ hzn rfl 10 0 (by omega) h1 hR (fun j hj => absurd hj (Nat.not_lt_zero j)) (hf1.mono (fun a j q => Or.inl (by unfold FpV at q; unfold FrD; omega))) hc1
