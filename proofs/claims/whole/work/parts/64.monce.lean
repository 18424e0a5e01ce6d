/-! the reference: readChoice, readOnce, readOrder -/
theorem kt_ldcS {f : kt_F} {cells slots pc : Nat} {lv : List (Option Value)} {st : List Value} {h : kx_Mem} {k i p : Nat} {o tx : String} {bs : List Int32} (hown : f.2.2.1.1.cls = o) (hk : kx_stb[k]? = some (o, i, tx, p, bs)) (hs : Cond.stringRef o i tx ∈ lw_tbl) (hd : decode f.2.2.1.2.1 pc = .ok (.ldc i, 2)) (kk : kt_X f cells slots (pc + 2) lv (.ref (1000000 + k) :: st) h) : kt_X f cells slots pc lv st h := by
  intro p e s m args below meth c C H locs ls hR hL hl
  obtain ⟨hx, hb, -, -, hcl, hts, -, -, hK⟩ := id C.1
  have hZ := (kx_sk hK.2.2.2 hR hk).2 hs
  rw [hown] at hcl
  have := kk p e s m args below meth c C H locs ls hR hL hl
  rw [List.map_cons, show kx_cv f.2.1 (.ref (1000000 + k)) = .ref (f.2.1.2.2.2.1 (1000000 + k)) from congrArg Value.ref (kx_adS _ _)] at this
  exact va_ldcS hx hb hcl hZ hd this
theorem ruSet_at {r : RU} {j : Nat} {x : Int32} : ruS (ruSet r j x) j = x := by
  show upF (ruS r) j x j = x
  unfold upF
  exact if_pos rfl
def ordG (b : Nat → Int32) (n : Nat) : Nat → Nat → List Nat → Fa ⊕ (List Nat × Nat)
  | 0, i, _ => .inl (0, i)
  | f + 1, i, L => match chO b n i nm4 with
    | none => if L = [] then .inl (1, tP b n i) else .inr (L, i)
    | some q => if q ∈ L then .inl (3, tP b n i) else ordG b n f (tE b n i) (L ++ [q])
theorem ordK_G {b : Nat → Int32} {n : Nat} : ∀ f i L, ordK b n f i L = (match ordG b n f i L with
  | .inl g => .inl g
  | .inr q => if tK b n q.2 = 3 then .inr (q.1, tE b n q.2) else .inl (1, tP b n q.2))
  | 0, i, L => rfl
  | f + 1, i, L => by
    unfold ordK ordG
    cases hch : chO b n i nm4 with
    | none =>
      by_cases e : L = []
      · simp [e]
      · by_cases k : tK b n i = 3
        · simp [e, k]
        · simp [e, k]
    | some q =>
      have h1 := (chO_lt hch).1
      have hk : ¬ (L ≠ [] ∧ tK b n i = 3) := fun z => by omega
      rw [if_neg hk]
      simp only
      split
      · rfl
      · exact ordK_G f _ _
/-- a clause's body, ahead of its end -/
noncomputable def bdF (c : Nat) (b : Nat → Int32) (n i : Nat) (r : RU) : Fa ⊕ (RU × Nat) := if c = 9 then (match ordG b n 5 i [] with
  | .inl g => .inl g
  | .inr q => .inr (ruOrd r (finO q.1), q.2)) else bodF c b n i r
theorem clF_bd {b : Nat → Int32} {n i c td : Nat} {r : RU} (hc : chO b n i nm0 = some c) (h1 : ¬ (c ≤ 9 ∧ bitN td c = 1)) (h2 : ¬ fulP r c) : clF b n i r td = (match bdF c b n (tE b n i) r with
  | .inl f => .inl f
  | .inr q => if tK b n q.2 = 3 then .inr (q.1, td ||| 2 ^ c, tE b n q.2) else .inl (1, tP b n q.2)) := by
  have e0 : clF b n i r td = (match bodF c b n (tE b n i) r with
    | .inl f => .inl f
    | .inr q => if c = 9 then .inr (q.1, td ||| 2 ^ c, q.2) else if tK b n q.2 = 3 then .inr (q.1, td ||| 2 ^ c, tE b n q.2) else .inl (1, tP b n q.2)) := by
    unfold clF
    rw [hc]
    exact (if_neg h1).trans (if_neg h2)
  rw [e0]
  unfold bdF
  by_cases e : c = 9
  · subst e
    rw [if_pos rfl, (bodF_at b n (tE b n i) r).2.2.2.2.2.2.2.2.2.1]
    unfold ordF2
    rw [ordK_G]
    cases hG : ordG b n 5 (tE b n i) [] with
    | inl g => rfl
    | inr q =>
      simp only
      by_cases k : tK b n q.2 = 3
      · simp [k]
      · simp [k]
  · rw [if_neg e]
    cases hB : bodF c b n (tE b n i) r with
    | inl f => rfl
    | inr q => simp only [e, if_false]
theorem y_readChoice {l : Launch} {g : kx_G} {d : Nat} {h : kx_Mem} (b : Nat → Int32) (n i : Nat) (r : RU) (fl : Nat → Prop) (nw : Nat) (T : Nat → Nat) (z : Nat) (hR : RM b n i r fl nw T z h) (s : Nat) (hs11 : s < 11) : kt_Sp l g m_Mo_readChoice [.ref 84, .int (nI s)] h (d + 2) 0 0 (fun v h' => ruS r s ≠ -1 ∧ v = none ∧ RM b n (tE b n i) r fl nw T z h' ∧ kx_Fc FrD h h') (fun h' => ruS r s = -1 ∧ ZF (1, tP b n i) nw T z h h') := by
  have hm := hR.1
  have hin := hR.2.2.1
  have hki := tK_le (b := b) (n := n) (i := i)
  obtain ⟨k1, k2, k3, k4⟩ := id hR.2.2.2.1
  have ho := hR.2.2.2.2.1
  have o16 := ho.1
  have hn6 := hR.2.1.1.2.1
  refine kt_enter (lv := [_, _]) (by decide +kernel) (Nat.le_of_ble_eq_true rfl) rfl ?_
  refine kt_aload_n (pc := 0) (kx_dd d_Mo_readChoice 0 rfl) rfl rfl ?_
  refine kt_iconst (pc := 1) (v := 4) (kx_dd d_Mo_readChoice 1 rfl) rfl ?_
  refine kt_iload_n (pc := 2) (kx_dd d_Mo_readChoice 2 rfl) rfl rfl ?_
  refine kt_invV (pc := 3) (a := 84) (as := [_, _]) (kx_dd d_Mo_readChoice 3 rfl) ⟨lk_Mo_162, wi_Mo_ruleOf, we_Mo_ruleOf⟩ w_Mo_ruleOf (hm.k 0 rfl) rfl rfl rfl rfl (Nat.le_of_ble_eq_true rfl) (y_ruleOf (d := d + 1) hm 4 s (by decide) hs11) (Nat.le_refl _) ⟨Nat.le_refl _, Nat.le_refl _⟩ (fun v h' hq => ?_)
  obtain ⟨rfl, he⟩ := hq
  rw [he]
  clear he
  refine kt_iconst (pc := 6) (v := -1) (kx_dd d_Mo_readChoice 4 rfl) rfl ?_
  refine kt_icmp_ne (pc := 7) (tgt := 16) (kx_dd d_Mo_readChoice 5 rfl) rfl (fun c7 => ?_) (fun c7 => ?_)
  · refine kt_aload_n (pc := 16) (kx_dd d_Mo_readChoice 10 rfl) rfl rfl ?_
    refine kt_invV (pc := 17) (a := 84) (as := []) (kx_dd d_Mo_readChoice 11 rfl) ⟨lk_Mo_77, wi_Mo_scan, we_Mo_scan⟩ w_Mo_scan (hm.k 0 rfl) rfl rfl rfl rfl (Nat.le_of_ble_eq_true rfl) (y_scan (d := d) hR.1 b n (tE b n i) hR.2.1.1 hR.2.1.2 (tE_n hR.2.2.1).1 hR.2.2.2.1.1) (Nat.le_refl _) ⟨Nat.le_refl _, Nat.le_refl _⟩ (fun v h' hq => ?_)
    revert h'
    intro h1 hq
    obtain ⟨rfl, hts9, hfs9⟩ := hq
    have hR1 := hR.scan hts9 hfs9
    have hF1 : kx_Fc FrD h h1 := kx_Fc.fs hfs9
    have hm := hR1.1
    refine kt_ofX (kx_vret (pc := 20) rfl (kx_dd d_Mo_readChoice 12 rfl) (Nat.le_refl _) (Nat.le_refl _) ?_)
    rw [hR.2.2.2.2.2.1.1 s hs11] at c7
    exact ⟨c7, rfl, hR1, hF1⟩
  · refine kt_aload_n (pc := 10) (kx_dd d_Mo_readChoice 6 rfl) rfl rfl ?_
    refine kt_iconst (pc := 11) (v := 1) (kx_dd d_Mo_readChoice 7 rfl) rfl ?_
    refine kt_invV (pc := 12) (a := 84) (as := [_]) (kx_dd d_Mo_readChoice 8 rfl) ⟨lk_Mo_73, wi_Mo_wrong, we_Mo_wrong⟩ w_Mo_wrong (hm.k 0 rfl) rfl rfl rfl rfl (Nat.le_of_ble_eq_true rfl) (y_wrong (d := d + 1) hm (nI 1)) (Nat.le_refl _) ⟨Nat.le_refl _, Nat.le_refl _⟩ (fun v h' hq => ?_)
    revert h'
    intro h9 hq
    obtain ⟨rfl, rfl⟩ := hq
    refine kt_athrow (kx_dd d_Mo_readChoice 9 rfl) rfl (Nat.le_refl _) (Nat.le_refl _) ?_
    rw [hR.2.2.2.2.2.1.1 s hs11] at c7
    exact ⟨c7, hR.fau 1⟩
theorem y_once0 {l : Launch} {g : kx_G} {d : Nat} {h : kx_Mem} (b : Nat → Int32) (n i : Nat) (r : RU) (nw : Nat) (T : Nat → Nat) (z : Nat) (hR : RM b n i r (wfl r) nw T z h) : kt_Sp l g m_Mo_readOnce [.ref 84, .int 0] h (d + 9) 0 0 (fun v h' => ∃ q, bdF 0 b n i r = .inr q ∧ v = none ∧ RM b n q.2 q.1 (wfl q.1) nw T z h' ∧ kx_Fc FrD h h') (fun h' => ∃ f, bdF 0 b n i r = .inl f ∧ ZF f nw T z h h') := by
  have hm := hR.1
  have hin := hR.2.2.1
  have hki := tK_le (b := b) (n := n) (i := i)
  obtain ⟨k1, k2, k3, k4⟩ := id hR.2.2.2.1
  have ho := hR.2.2.2.2.1
  have o16 := ho.1
  have hn6 := hR.2.1.1.2.1
  refine kt_enter (lv := [_, _]) (by decide +kernel) (Nat.le_of_ble_eq_true rfl) rfl ?_
  refine kt_iload_n (pc := 0) (kx_dd d_Mo_readOnce 0 rfl) rfl rfl ?_
  refine kt_tableIn (pc := 1) (tgt := 52) (kx_dd d_Mo_readOnce 1 rfl) (by decide) (by decide) rfl rfl ?_
  refine kt_aload_n (pc := 52) (kx_dd d_Mo_readOnce 2 rfl) rfl rfl ?_
  refine kt_iconst (pc := 53) (v := 0) (kx_dd d_Mo_readOnce 3 rfl) rfl ?_
  refine kt_aload_n (pc := 54) (kx_dd d_Mo_readOnce 4 rfl) rfl rfl ?_
  refine kt_iconst (pc := 55) (v := 0) (kx_dd d_Mo_readOnce 5 rfl) rfl ?_
  refine kt_sipush (pc := 56) (v := 1999) (kx_dd d_Mo_readOnce 6 rfl) rfl ?_
  refine kt_invT (a := 84) (as := [_, _]) (kx_dd d_Mo_readOnce 7 rfl) lm_Mo_155 wi_Mo_number we_Mo_number w_Mo_number (hm.k 0 rfl) rfl rfl rfl rfl (Nat.le_of_ble_eq_true rfl) (y_number (d := d + 6) b n i r _ nw T z hR 0 1999 (by omega) (by omega)) (Nat.le_refl _) ⟨Nat.le_refl _, Nat.le_refl _⟩ (fun v h' hq => ?_) (fun h' hz => Or.inl ⟨rfl, (by obtain ⟨f, z1, z2⟩ := hz; exact ⟨f, by show setF2 b n i r 0 0 1999 = _; unfold setF2; rw [z1], z2⟩)⟩)
  revert h'
  intro h1 hq
  obtain ⟨q9, hN, rfl, hR1, hF1⟩ := hq
  have hF1 := kx_Fc.fs hF1
  have hm := hR1.1
  refine kt_invV (pc := 62) (a := 84) (as := [_, _]) (kx_dd d_Mo_readOnce 8 rfl) ⟨lk_Mo_158, wi_Mo_told, we_Mo_told⟩ w_Mo_told (hm.k 0 rfl) rfl rfl rfl rfl (Nat.le_of_ble_eq_true rfl) (y_told (d := d + 8) hm 0 (by decide) (nI q9.1)) (Nat.le_refl _) ⟨Nat.le_refl _, Nat.le_refl _⟩ (fun v h' hq => ?_)
  revert h'
  intro h2 hq
  obtain ⟨rfl, rfl⟩ := hq
  have hR2 := hR1.set (j := 0) (x := (nI q9.1))
  have hm := hR2.1
  refine kt_goto (pc := 65) (tgt := 345) (kx_dd d_Mo_readOnce 9 rfl) rfl ?_
  refine kt_ofX (kx_vret (pc := 345) rfl (kx_dd d_Mo_readOnce 147 rfl) (Nat.le_refl _) (Nat.le_refl _) ?_)
  exact ⟨(ruSet r 0 (nI q9.1), q9.2), by show setF2 b n i r 0 0 1999 = _; unfold setF2; rw [hN], rfl, hR2, hF1.tr FrD.set⟩
theorem y_once1 {l : Launch} {g : kx_G} {d : Nat} {h : kx_Mem} (b : Nat → Int32) (n i : Nat) (r : RU) (nw : Nat) (T : Nat → Nat) (z : Nat) (hR : RM b n i r (wfl r) nw T z h) : kt_Sp l g m_Mo_readOnce [.ref 84, .int 1] h (d + 9) 0 0 (fun v h' => ∃ q, bdF 1 b n i r = .inr q ∧ v = none ∧ RM b n q.2 q.1 (wfl q.1) nw T z h' ∧ kx_Fc FrD h h') (fun h' => ∃ f, bdF 1 b n i r = .inl f ∧ ZF f nw T z h h') := by
  have hm := hR.1
  have hin := hR.2.2.1
  have hki := tK_le (b := b) (n := n) (i := i)
  obtain ⟨k1, k2, k3, k4⟩ := id hR.2.2.2.1
  have ho := hR.2.2.2.2.1
  have o16 := ho.1
  have hn6 := hR.2.1.1.2.1
  refine kt_enter (lv := [_, _]) (by decide +kernel) (Nat.le_of_ble_eq_true rfl) rfl ?_
  refine kt_iload_n (pc := 0) (kx_dd d_Mo_readOnce 0 rfl) rfl rfl ?_
  refine kt_tableIn (pc := 1) (tgt := 68) (kx_dd d_Mo_readOnce 1 rfl) (by decide) (by decide) rfl rfl ?_
  refine kt_aload_n (pc := 68) (kx_dd d_Mo_readOnce 10 rfl) rfl rfl ?_
  refine kt_iconst (pc := 69) (v := 1) (kx_dd d_Mo_readOnce 11 rfl) rfl ?_
  refine kt_aload_n (pc := 70) (kx_dd d_Mo_readOnce 12 rfl) rfl rfl ?_
  refine kt_iconst (pc := 71) (v := 0) (kx_dd d_Mo_readOnce 13 rfl) rfl ?_
  refine kt_sipush (pc := 72) (v := 1999) (kx_dd d_Mo_readOnce 14 rfl) rfl ?_
  refine kt_invT (a := 84) (as := [_, _]) (kx_dd d_Mo_readOnce 15 rfl) lm_Mo_155 wi_Mo_number we_Mo_number w_Mo_number (hm.k 0 rfl) rfl rfl rfl rfl (Nat.le_of_ble_eq_true rfl) (y_number (d := d + 6) b n i r _ nw T z hR 0 1999 (by omega) (by omega)) (Nat.le_refl _) ⟨Nat.le_refl _, Nat.le_refl _⟩ (fun v h' hq => ?_) (fun h' hz => Or.inl ⟨rfl, (by obtain ⟨f, z1, z2⟩ := hz; exact ⟨f, by show dayF b n i r = _; unfold dayF; rw [z1], z2⟩)⟩)
  revert h'
  intro h1 hq
  obtain ⟨q9, hN, rfl, hR1, hF1⟩ := hq
  have hF1 := kx_Fc.fs hF1
  have hm := hR1.1
  refine kt_invV (pc := 78) (a := 84) (as := [_, _]) (kx_dd d_Mo_readOnce 16 rfl) ⟨lk_Mo_158, wi_Mo_told, we_Mo_told⟩ w_Mo_told (hm.k 0 rfl) rfl rfl rfl rfl (Nat.le_of_ble_eq_true rfl) (y_told (d := d + 8) hm 1 (by decide) (nI q9.1)) (Nat.le_refl _) ⟨Nat.le_refl _, Nat.le_refl _⟩ (fun v h' hq => ?_)
  revert h'
  intro h2 hq
  obtain ⟨rfl, rfl⟩ := hq
  have hR2 := hR1.set (j := 1) (x := (nI q9.1))
  have hm := hR2.1
  refine kt_aload_n (pc := 81) (kx_dd d_Mo_readOnce 17 rfl) rfl rfl ?_
  refine kt_iconst (pc := 82) (v := 2) (kx_dd d_Mo_readOnce 18 rfl) rfl ?_
  refine kt_aload_n (pc := 83) (kx_dd d_Mo_readOnce 19 rfl) rfl rfl ?_
  refine kt_aload_n (pc := 84) (kx_dd d_Mo_readOnce 20 rfl) rfl rfl ?_
  refine kt_iconst (pc := 85) (v := 4) (kx_dd d_Mo_readOnce 21 rfl) rfl ?_
  refine kt_iconst (pc := 86) (v := 1) (kx_dd d_Mo_readOnce 22 rfl) rfl ?_
  refine kt_invV (pc := 87) (a := 84) (as := [_, _]) (kx_dd d_Mo_readOnce 23 rfl) ⟨lk_Mo_162, wi_Mo_ruleOf, we_Mo_ruleOf⟩ w_Mo_ruleOf (hm.k 0 rfl) rfl rfl rfl rfl (Nat.le_of_ble_eq_true rfl) (y_ruleOf (d := d + 8) hm 4 1 (by decide) (by decide)) (Nat.le_refl _) ⟨Nat.le_refl _, Nat.le_refl _⟩ (fun v h' hq => ?_)
  obtain ⟨rfl, hz8⟩ := hq
  rw [hz8]
  clear hz8
  rw [show (kx_setI h1 89 (44 + 1) (nI q9.1)).1 89 (11 * 4 + 1) = nI q9.1 from setI_at]
  refine kt_sipush (pc := 90) (v := 1999) (kx_dd d_Mo_readOnce 24 rfl) rfl ?_
  refine kt_invT (a := 84) (as := [_, _]) (kx_dd d_Mo_readOnce 25 rfl) lm_Mo_155 wi_Mo_number we_Mo_number w_Mo_number (hm.k 0 rfl) rfl rfl rfl rfl (Nat.le_of_ble_eq_true rfl) (y_number (d := d + 6) b n q9.2 (ruSet r 1 (nI q9.1)) _ nw T z hR2 q9.1 1999 (by have := (numF_ge hin hN).2.2.2; omega) (by decide)) (Nat.le_refl _) ⟨Nat.le_refl _, Nat.le_refl _⟩ (fun v h' hq => ?_) (fun h' hz => Or.inl ⟨rfl, (by obtain ⟨f, z1, z2⟩ := hz; exact ⟨f, by show dayF b n i r = _; unfold dayF; rw [hN]; unfold setF2; simp only [z1], z2.up WEx.rf (Nat.le_refl _) (hF1.tr FrD.set)⟩)⟩)
  revert h'
  intro h3 hq
  obtain ⟨z9, hN2, rfl, hR3, hF3⟩ := hq
  have hF3 := kx_Fc.fs hF3
  have hm := hR3.1
  refine kt_invV (pc := 96) (a := 84) (as := [_, _]) (kx_dd d_Mo_readOnce 26 rfl) ⟨lk_Mo_158, wi_Mo_told, we_Mo_told⟩ w_Mo_told (hm.k 0 rfl) rfl rfl rfl rfl (Nat.le_of_ble_eq_true rfl) (y_told (d := d + 8) hm 2 (by decide) (nI z9.1)) (Nat.le_refl _) ⟨Nat.le_refl _, Nat.le_refl _⟩ (fun v h' hq => ?_)
  revert h'
  intro h4 hq
  obtain ⟨rfl, rfl⟩ := hq
  have hR4 := hR3.set (j := 2) (x := (nI z9.1))
  have hm := hR4.1
  refine kt_goto (pc := 99) (tgt := 345) (kx_dd d_Mo_readOnce 27 rfl) rfl ?_
  refine kt_ofX (kx_vret (pc := 345) rfl (kx_dd d_Mo_readOnce 147 rfl) (Nat.le_refl _) (Nat.le_refl _) ?_)
  exact ⟨(ruSet (ruSet r 1 (nI q9.1)) 2 (nI z9.1), z9.2), by show dayF b n i r = _; unfold dayF; rw [hN]; unfold setF2; simp only [hN2], rfl, hR4, ((hF1.tr FrD.set).tr hF3).tr FrD.set⟩
theorem y_once2 {l : Launch} {g : kx_G} {d : Nat} {h : kx_Mem} (b : Nat → Int32) (n i : Nat) (r : RU) (nw : Nat) (T : Nat → Nat) (z : Nat) (hR : RM b n i r (wfl r) nw T z h) : kt_Sp l g m_Mo_readOnce [.ref 84, .int 2] h (d + 9) 0 0 (fun v h' => ∃ q, bdF 2 b n i r = .inr q ∧ v = none ∧ RM b n q.2 q.1 (wfl q.1) nw T z h' ∧ kx_Fc FrD h h') (fun h' => ∃ f, bdF 2 b n i r = .inl f ∧ ZF f nw T z h h') := by
  have hm := hR.1
  have hin := hR.2.2.1
  have hki := tK_le (b := b) (n := n) (i := i)
  obtain ⟨k1, k2, k3, k4⟩ := id hR.2.2.2.1
  have ho := hR.2.2.2.2.1
  have o16 := ho.1
  have hn6 := hR.2.1.1.2.1
  refine kt_enter (lv := [_, _]) (by decide +kernel) (Nat.le_of_ble_eq_true rfl) rfl ?_
  refine kt_iload_n (pc := 0) (kx_dd d_Mo_readOnce 0 rfl) rfl rfl ?_
  refine kt_tableIn (pc := 1) (tgt := 102) (kx_dd d_Mo_readOnce 1 rfl) (by decide) (by decide) rfl rfl ?_
  refine kt_aload_n (pc := 102) (kx_dd d_Mo_readOnce 28 rfl) rfl rfl ?_
  refine kt_iconst (pc := 103) (v := 3) (kx_dd d_Mo_readOnce 29 rfl) rfl ?_
  refine kt_aload_n (pc := 104) (kx_dd d_Mo_readOnce 30 rfl) rfl rfl ?_
  refine kt_ldcS (pc := 105) (k := 15) rfl rfl ks_15 (kx_dd d_Mo_readOnce 31 rfl) ?_
  refine kt_invV (pc := 107) (a := 84) (as := [_]) (kx_dd d_Mo_readOnce 32 rfl) ⟨lk_Mo_118, wi_Mo_is, we_Mo_is⟩ w_Mo_is (hm.k 0 rfl) rfl rfl rfl rfl (Nat.le_of_ble_eq_true rfl) (y_is (d := d + 4) hm b n i hR.2.1.1 hR.2.2.1 hR.2.2.2.1 (k := 15) (bs := [108, 111, 115, 115]) rfl il_15) (Nat.le_refl _) ⟨Nat.le_refl _, Nat.le_refl _⟩ (fun v h' hq => ?_)
  obtain ⟨rfl, he⟩ := hq
  rw [he]
  clear he
  refine kt_if_eq (pc := 110) (tgt := 117) (kx_dd d_Mo_readOnce 33 rfl) rfl (fun c110 => ?_) (fun c110 => ?_)
  · refine kt_aload_n (pc := 117) (kx_dd d_Mo_readOnce 36 rfl) rfl rfl ?_
    refine kt_ldcS (pc := 118) (k := 16) rfl rfl ks_16 (kx_dd d_Mo_readOnce 37 rfl) ?_
    refine kt_invV (pc := 120) (a := 84) (as := [_]) (kx_dd d_Mo_readOnce 38 rfl) ⟨lk_Mo_118, wi_Mo_is, we_Mo_is⟩ w_Mo_is (hm.k 0 rfl) rfl rfl rfl rfl (Nat.le_of_ble_eq_true rfl) (y_is (d := d + 4) hm b n i hR.2.1.1 hR.2.2.1 hR.2.2.2.1 (k := 16) (bs := [102, 105, 108, 105, 110, 103]) rfl il_16) (Nat.le_refl _) ⟨Nat.le_refl _, Nat.le_refl _⟩ (fun v h' hq => ?_)
    obtain ⟨rfl, he⟩ := hq
    rw [he]
    clear he
    refine kt_if_eq (pc := 123) (tgt := 130) (kx_dd d_Mo_readOnce 39 rfl) rfl (fun c123 => ?_) (fun c123 => ?_)
    · refine kt_aload_n (pc := 130) (kx_dd d_Mo_readOnce 42 rfl) rfl rfl ?_
      refine kt_ldcS (pc := 131) (k := 17) rfl rfl ks_17 (kx_dd d_Mo_readOnce 43 rfl) ?_
      refine kt_invV (pc := 133) (a := 84) (as := [_]) (kx_dd d_Mo_readOnce 44 rfl) ⟨lk_Mo_118, wi_Mo_is, we_Mo_is⟩ w_Mo_is (hm.k 0 rfl) rfl rfl rfl rfl (Nat.le_of_ble_eq_true rfl) (y_is (d := d + 4) hm b n i hR.2.1.1 hR.2.2.1 hR.2.2.2.1 (k := 17) (bs := [98, 111, 116, 104]) rfl il_17) (Nat.le_refl _) ⟨Nat.le_refl _, Nat.le_refl _⟩ (fun v h' hq => ?_)
      obtain ⟨rfl, he⟩ := hq
      rw [he]
      clear he
      refine kt_if_eq (pc := 136) (tgt := 143) (kx_dd d_Mo_readOnce 45 rfl) rfl (fun c136 => ?_) (fun c136 => ?_)
      · refine kt_aload_n (pc := 143) (kx_dd d_Mo_readOnce 48 rfl) rfl rfl ?_
        refine kt_ldcS (pc := 144) (k := 18) rfl rfl ks_18 (kx_dd d_Mo_readOnce 49 rfl) ?_
        refine kt_invV (pc := 146) (a := 84) (as := [_]) (kx_dd d_Mo_readOnce 50 rfl) ⟨lk_Mo_118, wi_Mo_is, we_Mo_is⟩ w_Mo_is (hm.k 0 rfl) rfl rfl rfl rfl (Nat.le_of_ble_eq_true rfl) (y_is (d := d + 4) hm b n i hR.2.1.1 hR.2.2.1 hR.2.2.2.1 (k := 18) (bs := [97, 108, 119, 97, 121, 115]) rfl il_18) (Nat.le_refl _) ⟨Nat.le_refl _, Nat.le_refl _⟩ (fun v h' hq => ?_)
        obtain ⟨rfl, he⟩ := hq
        rw [he]
        clear he
        refine kt_if_eq (pc := 149) (tgt := 156) (kx_dd d_Mo_readOnce 51 rfl) rfl (fun c149 => ?_) (fun c149 => ?_)
        · refine kt_iconst (pc := 156) (v := -1) (kx_dd d_Mo_readOnce 54 rfl) rfl ?_
          refine kt_invV (pc := 157) (a := 84) (as := [_, _]) (kx_dd d_Mo_readOnce 55 rfl) ⟨lk_Mo_158, wi_Mo_told, we_Mo_told⟩ w_Mo_told (hm.k 0 rfl) rfl rfl rfl rfl (Nat.le_of_ble_eq_true rfl) (y_told (d := d + 8) hm 3 (by decide) (-1)) (Nat.le_refl _) ⟨Nat.le_refl _, Nat.le_refl _⟩ (fun v h' hq => ?_)
          revert h'
          intro h5 hq
          obtain ⟨rfl, rfl⟩ := hq
          have hR5 := hR.set (j := 3) (x := (-1))
          have hm := hR5.1
          rw [bP_0, iw_15 hR.2.2.1] at c110
          rw [bP_0, iw_16 hR.2.2.1] at c123
          rw [bP_0, iw_17 hR.2.2.1] at c136
          rw [bP_0, iw_18 hR.2.2.1] at c149
          have ech : chO b n i nm1 = none := by
            cases hch : chO b n i nm1 with
            | none => rfl
            | some c =>
              obtain ⟨h1, h2⟩ := chO_get hch
              have hc := (chO_lt hch).2
              match c, hc with
              | 0, _ => exact absurd ⟨h1, (Option.some.inj h2).symm⟩ c110
              | 1, _ => exact absurd ⟨h1, (Option.some.inj h2).symm⟩ c123
              | 2, _ => exact absurd ⟨h1, (Option.some.inj h2).symm⟩ c136
              | 3, _ => exact absurd ⟨h1, (Option.some.inj h2).symm⟩ c149
              | m + 4, hc => exact absurd hc (by have : nm1.length = 4 := rfl; omega)
          refine kt_aload_n (pc := 160) (kx_dd d_Mo_readOnce 56 rfl) rfl rfl ?_
          refine kt_iconst (pc := 161) (v := 3) (kx_dd d_Mo_readOnce 57 rfl) rfl ?_
          refine kt_invT (a := 84) (as := [_]) (kx_dd d_Mo_readOnce 58 rfl) lm_Mo_173 wi_Mo_readChoice we_Mo_readChoice w_Mo_readChoice (hm.k 0 rfl) rfl rfl rfl rfl (Nat.le_of_ble_eq_true rfl) (y_readChoice (d := d + 6) b n i (ruSet r 3 (-1)) _ nw T z hR5 3 (by decide)) (Nat.le_refl _) ⟨Nat.le_refl _, Nat.le_refl _⟩ (fun v h' hq => ?_) (fun h' hz => Or.inl ⟨rfl, ⟨_, (show chcF b n i r 3 nm1 = .inl (1, tP b n i) by unfold chcF; simp only [ech]), hz.2.up WEx.rf (Nat.le_refl _) (kx_Fc.rf.tr FrD.set)⟩⟩)
          revert h'
          intro h6 hq
          obtain ⟨hne, rfl, hR6, hF6⟩ := hq
          have hm := hR6.1
          refine kt_goto (pc := 165) (tgt := 345) (kx_dd d_Mo_readOnce 59 rfl) rfl ?_
          refine kt_ofX (kx_vret (pc := 345) rfl (kx_dd d_Mo_readOnce 147 rfl) (Nat.le_refl _) (Nat.le_refl _) ?_)
          exact absurd ruSet_at hne
        · refine kt_iconst (pc := 152) (v := 3) (kx_dd d_Mo_readOnce 52 rfl) rfl ?_
          refine kt_goto (pc := 153) (tgt := 157) (kx_dd d_Mo_readOnce 53 rfl) rfl ?_
          refine kt_invV (pc := 157) (a := 84) (as := [_, _]) (kx_dd d_Mo_readOnce 55 rfl) ⟨lk_Mo_158, wi_Mo_told, we_Mo_told⟩ w_Mo_told (hm.k 0 rfl) rfl rfl rfl rfl (Nat.le_of_ble_eq_true rfl) (y_told (d := d + 8) hm 3 (by decide) 3) (Nat.le_refl _) ⟨Nat.le_refl _, Nat.le_refl _⟩ (fun v h' hq => ?_)
          revert h'
          intro h5 hq
          obtain ⟨rfl, rfl⟩ := hq
          have hR5 := hR.set (j := 3) (x := 3)
          have hm := hR5.1
          rw [bP_0, Classical.not_not, iw_18 hR.2.2.1] at c149
          have ech : chO b n i nm1 = some 3 := chO_of c149.1 c149.2 (by decide)
          refine kt_aload_n (pc := 160) (kx_dd d_Mo_readOnce 56 rfl) rfl rfl ?_
          refine kt_iconst (pc := 161) (v := 3) (kx_dd d_Mo_readOnce 57 rfl) rfl ?_
          refine kt_invT (a := 84) (as := [_]) (kx_dd d_Mo_readOnce 58 rfl) lm_Mo_173 wi_Mo_readChoice we_Mo_readChoice w_Mo_readChoice (hm.k 0 rfl) rfl rfl rfl rfl (Nat.le_of_ble_eq_true rfl) (y_readChoice (d := d + 6) b n i (ruSet r 3 3) _ nw T z hR5 3 (by decide)) (Nat.le_refl _) ⟨Nat.le_refl _, Nat.le_refl _⟩ (fun v h' hq => ?_) (fun h' hz => Or.inl ⟨rfl, absurd (show (3 : Int32) = -1 from (ruSet_at (r := r) (j := 3) (x := 3)).symm.trans hz.1) (by decide)⟩)
          revert h'
          intro h6 hq
          obtain ⟨hne, rfl, hR6, hF6⟩ := hq
          have hm := hR6.1
          refine kt_goto (pc := 165) (tgt := 345) (kx_dd d_Mo_readOnce 59 rfl) rfl ?_
          refine kt_ofX (kx_vret (pc := 345) rfl (kx_dd d_Mo_readOnce 147 rfl) (Nat.le_refl _) (Nat.le_refl _) ?_)
          exact ⟨(ruSet r 3 3, tE b n i), by show chcF b n i r 3 nm1 = _; unfold chcF; simp only [ech]; rfl, rfl, hR6, (kx_Fc.rf.tr FrD.set).tr hF6⟩
      · refine kt_iconst (pc := 139) (v := 2) (kx_dd d_Mo_readOnce 46 rfl) rfl ?_
        refine kt_goto (pc := 140) (tgt := 157) (kx_dd d_Mo_readOnce 47 rfl) rfl ?_
        refine kt_invV (pc := 157) (a := 84) (as := [_, _]) (kx_dd d_Mo_readOnce 55 rfl) ⟨lk_Mo_158, wi_Mo_told, we_Mo_told⟩ w_Mo_told (hm.k 0 rfl) rfl rfl rfl rfl (Nat.le_of_ble_eq_true rfl) (y_told (d := d + 8) hm 3 (by decide) 2) (Nat.le_refl _) ⟨Nat.le_refl _, Nat.le_refl _⟩ (fun v h' hq => ?_)
        revert h'
        intro h5 hq
        obtain ⟨rfl, rfl⟩ := hq
        have hR5 := hR.set (j := 3) (x := 2)
        have hm := hR5.1
        rw [bP_0, Classical.not_not, iw_17 hR.2.2.1] at c136
        have ech : chO b n i nm1 = some 2 := chO_of c136.1 c136.2 (by decide)
        refine kt_aload_n (pc := 160) (kx_dd d_Mo_readOnce 56 rfl) rfl rfl ?_
        refine kt_iconst (pc := 161) (v := 3) (kx_dd d_Mo_readOnce 57 rfl) rfl ?_
        refine kt_invT (a := 84) (as := [_]) (kx_dd d_Mo_readOnce 58 rfl) lm_Mo_173 wi_Mo_readChoice we_Mo_readChoice w_Mo_readChoice (hm.k 0 rfl) rfl rfl rfl rfl (Nat.le_of_ble_eq_true rfl) (y_readChoice (d := d + 6) b n i (ruSet r 3 2) _ nw T z hR5 3 (by decide)) (Nat.le_refl _) ⟨Nat.le_refl _, Nat.le_refl _⟩ (fun v h' hq => ?_) (fun h' hz => Or.inl ⟨rfl, absurd (show (2 : Int32) = -1 from (ruSet_at (r := r) (j := 3) (x := 2)).symm.trans hz.1) (by decide)⟩)
        revert h'
        intro h6 hq
        obtain ⟨hne, rfl, hR6, hF6⟩ := hq
        have hm := hR6.1
        refine kt_goto (pc := 165) (tgt := 345) (kx_dd d_Mo_readOnce 59 rfl) rfl ?_
        refine kt_ofX (kx_vret (pc := 345) rfl (kx_dd d_Mo_readOnce 147 rfl) (Nat.le_refl _) (Nat.le_refl _) ?_)
        exact ⟨(ruSet r 3 2, tE b n i), by show chcF b n i r 3 nm1 = _; unfold chcF; simp only [ech]; rfl, rfl, hR6, (kx_Fc.rf.tr FrD.set).tr hF6⟩
    · refine kt_iconst (pc := 126) (v := 1) (kx_dd d_Mo_readOnce 40 rfl) rfl ?_
      refine kt_goto (pc := 127) (tgt := 157) (kx_dd d_Mo_readOnce 41 rfl) rfl ?_
      refine kt_invV (pc := 157) (a := 84) (as := [_, _]) (kx_dd d_Mo_readOnce 55 rfl) ⟨lk_Mo_158, wi_Mo_told, we_Mo_told⟩ w_Mo_told (hm.k 0 rfl) rfl rfl rfl rfl (Nat.le_of_ble_eq_true rfl) (y_told (d := d + 8) hm 3 (by decide) 1) (Nat.le_refl _) ⟨Nat.le_refl _, Nat.le_refl _⟩ (fun v h' hq => ?_)
      revert h'
      intro h5 hq
      obtain ⟨rfl, rfl⟩ := hq
      have hR5 := hR.set (j := 3) (x := 1)
      have hm := hR5.1
      rw [bP_0, Classical.not_not, iw_16 hR.2.2.1] at c123
      have ech : chO b n i nm1 = some 1 := chO_of c123.1 c123.2 (by decide)
      refine kt_aload_n (pc := 160) (kx_dd d_Mo_readOnce 56 rfl) rfl rfl ?_
      refine kt_iconst (pc := 161) (v := 3) (kx_dd d_Mo_readOnce 57 rfl) rfl ?_
      refine kt_invT (a := 84) (as := [_]) (kx_dd d_Mo_readOnce 58 rfl) lm_Mo_173 wi_Mo_readChoice we_Mo_readChoice w_Mo_readChoice (hm.k 0 rfl) rfl rfl rfl rfl (Nat.le_of_ble_eq_true rfl) (y_readChoice (d := d + 6) b n i (ruSet r 3 1) _ nw T z hR5 3 (by decide)) (Nat.le_refl _) ⟨Nat.le_refl _, Nat.le_refl _⟩ (fun v h' hq => ?_) (fun h' hz => Or.inl ⟨rfl, absurd (show (1 : Int32) = -1 from (ruSet_at (r := r) (j := 3) (x := 1)).symm.trans hz.1) (by decide)⟩)
      revert h'
      intro h6 hq
      obtain ⟨hne, rfl, hR6, hF6⟩ := hq
      have hm := hR6.1
      refine kt_goto (pc := 165) (tgt := 345) (kx_dd d_Mo_readOnce 59 rfl) rfl ?_
      refine kt_ofX (kx_vret (pc := 345) rfl (kx_dd d_Mo_readOnce 147 rfl) (Nat.le_refl _) (Nat.le_refl _) ?_)
      exact ⟨(ruSet r 3 1, tE b n i), by show chcF b n i r 3 nm1 = _; unfold chcF; simp only [ech]; rfl, rfl, hR6, (kx_Fc.rf.tr FrD.set).tr hF6⟩
  · refine kt_iconst (pc := 113) (v := 0) (kx_dd d_Mo_readOnce 34 rfl) rfl ?_
    refine kt_goto (pc := 114) (tgt := 157) (kx_dd d_Mo_readOnce 35 rfl) rfl ?_
    refine kt_invV (pc := 157) (a := 84) (as := [_, _]) (kx_dd d_Mo_readOnce 55 rfl) ⟨lk_Mo_158, wi_Mo_told, we_Mo_told⟩ w_Mo_told (hm.k 0 rfl) rfl rfl rfl rfl (Nat.le_of_ble_eq_true rfl) (y_told (d := d + 8) hm 3 (by decide) 0) (Nat.le_refl _) ⟨Nat.le_refl _, Nat.le_refl _⟩ (fun v h' hq => ?_)
    revert h'
    intro h5 hq
    obtain ⟨rfl, rfl⟩ := hq
    have hR5 := hR.set (j := 3) (x := 0)
    have hm := hR5.1
    rw [bP_0, Classical.not_not, iw_15 hR.2.2.1] at c110
    have ech : chO b n i nm1 = some 0 := chO_of c110.1 c110.2 (by decide)
    refine kt_aload_n (pc := 160) (kx_dd d_Mo_readOnce 56 rfl) rfl rfl ?_
    refine kt_iconst (pc := 161) (v := 3) (kx_dd d_Mo_readOnce 57 rfl) rfl ?_
    refine kt_invT (a := 84) (as := [_]) (kx_dd d_Mo_readOnce 58 rfl) lm_Mo_173 wi_Mo_readChoice we_Mo_readChoice w_Mo_readChoice (hm.k 0 rfl) rfl rfl rfl rfl (Nat.le_of_ble_eq_true rfl) (y_readChoice (d := d + 6) b n i (ruSet r 3 0) _ nw T z hR5 3 (by decide)) (Nat.le_refl _) ⟨Nat.le_refl _, Nat.le_refl _⟩ (fun v h' hq => ?_) (fun h' hz => Or.inl ⟨rfl, absurd (show (0 : Int32) = -1 from (ruSet_at (r := r) (j := 3) (x := 0)).symm.trans hz.1) (by decide)⟩)
    revert h'
    intro h6 hq
    obtain ⟨hne, rfl, hR6, hF6⟩ := hq
    have hm := hR6.1
    refine kt_goto (pc := 165) (tgt := 345) (kx_dd d_Mo_readOnce 59 rfl) rfl ?_
    refine kt_ofX (kx_vret (pc := 345) rfl (kx_dd d_Mo_readOnce 147 rfl) (Nat.le_refl _) (Nat.le_refl _) ?_)
    exact ⟨(ruSet r 3 0, tE b n i), by show chcF b n i r 3 nm1 = _; unfold chcF; simp only [ech]; rfl, rfl, hR6, (kx_Fc.rf.tr FrD.set).tr hF6⟩
theorem y_once4 {l : Launch} {g : kx_G} {d : Nat} {h : kx_Mem} (b : Nat → Int32) (n i : Nat) (r : RU) (nw : Nat) (T : Nat → Nat) (z : Nat) (hR : RM b n i r (wfl r) nw T z h) : kt_Sp l g m_Mo_readOnce [.ref 84, .int 4] h (d + 9) 0 0 (fun v h' => ∃ q, bdF 3 b n i r = .inr q ∧ v = none ∧ RM b n q.2 q.1 (wfl q.1) nw T z h' ∧ kx_Fc FrD h h') (fun h' => ∃ f, bdF 3 b n i r = .inl f ∧ ZF f nw T z h h') := by
  have hm := hR.1
  have hin := hR.2.2.1
  have hki := tK_le (b := b) (n := n) (i := i)
  obtain ⟨k1, k2, k3, k4⟩ := id hR.2.2.2.1
  have ho := hR.2.2.2.2.1
  have o16 := ho.1
  have hn6 := hR.2.1.1.2.1
  refine kt_enter (lv := [_, _]) (by decide +kernel) (Nat.le_of_ble_eq_true rfl) rfl ?_
  refine kt_iload_n (pc := 0) (kx_dd d_Mo_readOnce 0 rfl) rfl rfl ?_
  refine kt_tableIn (pc := 1) (tgt := 175) (kx_dd d_Mo_readOnce 1 rfl) (by decide) (by decide) rfl rfl ?_
  refine kt_aload_n (pc := 175) (kx_dd d_Mo_readOnce 63 rfl) rfl rfl ?_
  refine kt_iconst (pc := 176) (v := 4) (kx_dd d_Mo_readOnce 64 rfl) rfl ?_
  refine kt_aload_n (pc := 177) (kx_dd d_Mo_readOnce 65 rfl) rfl rfl ?_
  refine kt_iconst (pc := 178) (v := 0) (kx_dd d_Mo_readOnce 66 rfl) rfl ?_
  refine kt_bipush (pc := 179) (v := 99) (kx_dd d_Mo_readOnce 67 rfl) rfl ?_
  refine kt_invT (a := 84) (as := [_, _]) (kx_dd d_Mo_readOnce 68 rfl) lm_Mo_155 wi_Mo_number we_Mo_number w_Mo_number (hm.k 0 rfl) rfl rfl rfl rfl (Nat.le_of_ble_eq_true rfl) (y_number (d := d + 6) b n i r _ nw T z hR 0 99 (by omega) (by omega)) (Nat.le_refl _) ⟨Nat.le_refl _, Nat.le_refl _⟩ (fun v h' hq => ?_) (fun h' hz => Or.inl ⟨rfl, (by obtain ⟨f, z1, z2⟩ := hz; exact ⟨f, by show rteF b n i r = _; unfold rteF; rw [z1], z2⟩)⟩)
  revert h'
  intro h1 hq
  obtain ⟨q9, hN, rfl, hR1, hF1⟩ := hq
  have hF1 := kx_Fc.fs hF1
  have hm := hR1.1
  refine kt_invV (pc := 184) (a := 84) (as := [_, _]) (kx_dd d_Mo_readOnce 69 rfl) ⟨lk_Mo_158, wi_Mo_told, we_Mo_told⟩ w_Mo_told (hm.k 0 rfl) rfl rfl rfl rfl (Nat.le_of_ble_eq_true rfl) (y_told (d := d + 8) hm 4 (by decide) (nI q9.1)) (Nat.le_refl _) ⟨Nat.le_refl _, Nat.le_refl _⟩ (fun v h' hq => ?_)
  revert h'
  intro h2 hq
  obtain ⟨rfl, rfl⟩ := hq
  have hR2 := hR1.set (j := 4) (x := (nI q9.1))
  have hm := hR2.1
  refine kt_aload_n (pc := 187) (kx_dd d_Mo_readOnce 70 rfl) rfl rfl ?_
  refine kt_iconst (pc := 188) (v := 5) (kx_dd d_Mo_readOnce 71 rfl) rfl ?_
  refine kt_aload_n (pc := 189) (kx_dd d_Mo_readOnce 72 rfl) rfl rfl ?_
  refine kt_ldcS (pc := 190) (k := 15) rfl rfl ks_15 (kx_dd d_Mo_readOnce 73 rfl) ?_
  refine kt_invV (pc := 192) (a := 84) (as := [_]) (kx_dd d_Mo_readOnce 74 rfl) ⟨lk_Mo_118, wi_Mo_is, we_Mo_is⟩ w_Mo_is (hm.k 0 rfl) rfl rfl rfl rfl (Nat.le_of_ble_eq_true rfl) (y_is (d := d + 4) hm b n q9.2 hR2.2.1.1 hR2.2.2.1 hR2.2.2.2.1 (k := 15) (bs := [108, 111, 115, 115]) rfl il_15) (Nat.le_refl _) ⟨Nat.le_refl _, Nat.le_refl _⟩ (fun v h' hq => ?_)
  obtain ⟨rfl, he⟩ := hq
  rw [he]
  clear he
  refine kt_if_eq (pc := 195) (tgt := 202) (kx_dd d_Mo_readOnce 75 rfl) rfl (fun c195 => ?_) (fun c195 => ?_)
  · refine kt_aload_n (pc := 202) (kx_dd d_Mo_readOnce 78 rfl) rfl rfl ?_
    refine kt_ldcS (pc := 203) (k := 16) rfl rfl ks_16 (kx_dd d_Mo_readOnce 79 rfl) ?_
    refine kt_invV (pc := 205) (a := 84) (as := [_]) (kx_dd d_Mo_readOnce 80 rfl) ⟨lk_Mo_118, wi_Mo_is, we_Mo_is⟩ w_Mo_is (hm.k 0 rfl) rfl rfl rfl rfl (Nat.le_of_ble_eq_true rfl) (y_is (d := d + 4) hm b n q9.2 hR2.2.1.1 hR2.2.2.1 hR2.2.2.2.1 (k := 16) (bs := [102, 105, 108, 105, 110, 103]) rfl il_16) (Nat.le_refl _) ⟨Nat.le_refl _, Nat.le_refl _⟩ (fun v h' hq => ?_)
    obtain ⟨rfl, he⟩ := hq
    rw [he]
    clear he
    refine kt_if_eq (pc := 208) (tgt := 215) (kx_dd d_Mo_readOnce 81 rfl) rfl (fun c208 => ?_) (fun c208 => ?_)
    · refine kt_iconst (pc := 215) (v := -1) (kx_dd d_Mo_readOnce 84 rfl) rfl ?_
      refine kt_invV (pc := 216) (a := 84) (as := [_, _]) (kx_dd d_Mo_readOnce 85 rfl) ⟨lk_Mo_158, wi_Mo_told, we_Mo_told⟩ w_Mo_told (hm.k 0 rfl) rfl rfl rfl rfl (Nat.le_of_ble_eq_true rfl) (y_told (d := d + 8) hm 5 (by decide) (-1)) (Nat.le_refl _) ⟨Nat.le_refl _, Nat.le_refl _⟩ (fun v h' hq => ?_)
      revert h'
      intro h5 hq
      obtain ⟨rfl, rfl⟩ := hq
      have hR5 := hR2.set (j := 5) (x := (-1))
      have hm := hR5.1
      rw [bP_0, iw_15 hR2.2.2.1] at c195
      rw [bP_0, iw_16 hR2.2.2.1] at c208
      have ech : chO b n q9.2 nm2 = none := by
        cases hch : chO b n q9.2 nm2 with
        | none => rfl
        | some c =>
          obtain ⟨h1, h2⟩ := chO_get hch
          have hc := (chO_lt hch).2
          match c, hc with
          | 0, _ => exact absurd ⟨h1, (Option.some.inj h2).symm⟩ c195
          | 1, _ => exact absurd ⟨h1, (Option.some.inj h2).symm⟩ c208
          | m + 2, hc => exact absurd hc (by have : nm2.length = 2 := rfl; omega)
      refine kt_aload_n (pc := 219) (kx_dd d_Mo_readOnce 86 rfl) rfl rfl ?_
      refine kt_iconst (pc := 220) (v := 5) (kx_dd d_Mo_readOnce 87 rfl) rfl ?_
      refine kt_invT (a := 84) (as := [_]) (kx_dd d_Mo_readOnce 88 rfl) lm_Mo_173 wi_Mo_readChoice we_Mo_readChoice w_Mo_readChoice (hm.k 0 rfl) rfl rfl rfl rfl (Nat.le_of_ble_eq_true rfl) (y_readChoice (d := d + 6) b n q9.2 (ruSet (ruSet r 4 (nI q9.1)) 5 (-1)) _ nw T z hR5 5 (by decide)) (Nat.le_refl _) ⟨Nat.le_refl _, Nat.le_refl _⟩ (fun v h' hq => ?_) (fun h' hz => Or.inl ⟨rfl, ⟨_, (show rteF b n i r = .inl (1, tP b n q9.2) by unfold rteF; rw [hN]; unfold chcF; simp only [ech]), hz.2.up WEx.rf (Nat.le_refl _) ((hF1.tr FrD.set).tr FrD.set)⟩⟩)
      revert h'
      intro h6 hq
      obtain ⟨hne, rfl, hR6, hF6⟩ := hq
      have hm := hR6.1
      refine kt_goto (pc := 224) (tgt := 345) (kx_dd d_Mo_readOnce 89 rfl) rfl ?_
      refine kt_ofX (kx_vret (pc := 345) rfl (kx_dd d_Mo_readOnce 147 rfl) (Nat.le_refl _) (Nat.le_refl _) ?_)
      exact absurd ruSet_at hne
    · refine kt_iconst (pc := 211) (v := 1) (kx_dd d_Mo_readOnce 82 rfl) rfl ?_
      refine kt_goto (pc := 212) (tgt := 216) (kx_dd d_Mo_readOnce 83 rfl) rfl ?_
      refine kt_invV (pc := 216) (a := 84) (as := [_, _]) (kx_dd d_Mo_readOnce 85 rfl) ⟨lk_Mo_158, wi_Mo_told, we_Mo_told⟩ w_Mo_told (hm.k 0 rfl) rfl rfl rfl rfl (Nat.le_of_ble_eq_true rfl) (y_told (d := d + 8) hm 5 (by decide) 1) (Nat.le_refl _) ⟨Nat.le_refl _, Nat.le_refl _⟩ (fun v h' hq => ?_)
      revert h'
      intro h5 hq
      obtain ⟨rfl, rfl⟩ := hq
      have hR5 := hR2.set (j := 5) (x := 1)
      have hm := hR5.1
      rw [bP_0, Classical.not_not, iw_16 hR2.2.2.1] at c208
      have ech : chO b n q9.2 nm2 = some 1 := chO_of c208.1 c208.2 (by decide)
      refine kt_aload_n (pc := 219) (kx_dd d_Mo_readOnce 86 rfl) rfl rfl ?_
      refine kt_iconst (pc := 220) (v := 5) (kx_dd d_Mo_readOnce 87 rfl) rfl ?_
      refine kt_invT (a := 84) (as := [_]) (kx_dd d_Mo_readOnce 88 rfl) lm_Mo_173 wi_Mo_readChoice we_Mo_readChoice w_Mo_readChoice (hm.k 0 rfl) rfl rfl rfl rfl (Nat.le_of_ble_eq_true rfl) (y_readChoice (d := d + 6) b n q9.2 (ruSet (ruSet r 4 (nI q9.1)) 5 1) _ nw T z hR5 5 (by decide)) (Nat.le_refl _) ⟨Nat.le_refl _, Nat.le_refl _⟩ (fun v h' hq => ?_) (fun h' hz => Or.inl ⟨rfl, absurd (show (1 : Int32) = -1 from (ruSet_at (r := (ruSet r 4 (nI q9.1))) (j := 5) (x := 1)).symm.trans hz.1) (by decide)⟩)
      revert h'
      intro h6 hq
      obtain ⟨hne, rfl, hR6, hF6⟩ := hq
      have hm := hR6.1
      refine kt_goto (pc := 224) (tgt := 345) (kx_dd d_Mo_readOnce 89 rfl) rfl ?_
      refine kt_ofX (kx_vret (pc := 345) rfl (kx_dd d_Mo_readOnce 147 rfl) (Nat.le_refl _) (Nat.le_refl _) ?_)
      exact ⟨(ruSet (ruSet r 4 (nI q9.1)) 5 1, tE b n q9.2), by show rteF b n i r = _; unfold rteF; rw [hN]; unfold chcF; simp only [ech]; rfl, rfl, hR6, ((hF1.tr FrD.set).tr FrD.set).tr hF6⟩
  · refine kt_iconst (pc := 198) (v := 0) (kx_dd d_Mo_readOnce 76 rfl) rfl ?_
    refine kt_goto (pc := 199) (tgt := 216) (kx_dd d_Mo_readOnce 77 rfl) rfl ?_
    refine kt_invV (pc := 216) (a := 84) (as := [_, _]) (kx_dd d_Mo_readOnce 85 rfl) ⟨lk_Mo_158, wi_Mo_told, we_Mo_told⟩ w_Mo_told (hm.k 0 rfl) rfl rfl rfl rfl (Nat.le_of_ble_eq_true rfl) (y_told (d := d + 8) hm 5 (by decide) 0) (Nat.le_refl _) ⟨Nat.le_refl _, Nat.le_refl _⟩ (fun v h' hq => ?_)
    revert h'
    intro h5 hq
    obtain ⟨rfl, rfl⟩ := hq
    have hR5 := hR2.set (j := 5) (x := 0)
    have hm := hR5.1
    rw [bP_0, Classical.not_not, iw_15 hR2.2.2.1] at c195
    have ech : chO b n q9.2 nm2 = some 0 := chO_of c195.1 c195.2 (by decide)
    refine kt_aload_n (pc := 219) (kx_dd d_Mo_readOnce 86 rfl) rfl rfl ?_
    refine kt_iconst (pc := 220) (v := 5) (kx_dd d_Mo_readOnce 87 rfl) rfl ?_
    refine kt_invT (a := 84) (as := [_]) (kx_dd d_Mo_readOnce 88 rfl) lm_Mo_173 wi_Mo_readChoice we_Mo_readChoice w_Mo_readChoice (hm.k 0 rfl) rfl rfl rfl rfl (Nat.le_of_ble_eq_true rfl) (y_readChoice (d := d + 6) b n q9.2 (ruSet (ruSet r 4 (nI q9.1)) 5 0) _ nw T z hR5 5 (by decide)) (Nat.le_refl _) ⟨Nat.le_refl _, Nat.le_refl _⟩ (fun v h' hq => ?_) (fun h' hz => Or.inl ⟨rfl, absurd (show (0 : Int32) = -1 from (ruSet_at (r := (ruSet r 4 (nI q9.1))) (j := 5) (x := 0)).symm.trans hz.1) (by decide)⟩)
    revert h'
    intro h6 hq
    obtain ⟨hne, rfl, hR6, hF6⟩ := hq
    have hm := hR6.1
    refine kt_goto (pc := 224) (tgt := 345) (kx_dd d_Mo_readOnce 89 rfl) rfl ?_
    refine kt_ofX (kx_vret (pc := 345) rfl (kx_dd d_Mo_readOnce 147 rfl) (Nat.le_refl _) (Nat.le_refl _) ?_)
    exact ⟨(ruSet (ruSet r 4 (nI q9.1)) 5 0, tE b n q9.2), by show rteF b n i r = _; unfold rteF; rw [hN]; unfold chcF; simp only [ech]; rfl, rfl, hR6, ((hF1.tr FrD.set).tr FrD.set).tr hF6⟩
theorem y_once5 {l : Launch} {g : kx_G} {d : Nat} {h : kx_Mem} (b : Nat → Int32) (n i : Nat) (r : RU) (nw : Nat) (T : Nat → Nat) (z : Nat) (hR : RM b n i r (wfl r) nw T z h) : kt_Sp l g m_Mo_readOnce [.ref 84, .int 5] h (d + 9) 0 0 (fun v h' => ∃ q, bdF 4 b n i r = .inr q ∧ v = none ∧ RM b n q.2 q.1 (wfl q.1) nw T z h' ∧ kx_Fc FrD h h') (fun h' => ∃ f, bdF 4 b n i r = .inl f ∧ ZF f nw T z h h') := by
  have hm := hR.1
  have hin := hR.2.2.1
  have hki := tK_le (b := b) (n := n) (i := i)
  obtain ⟨k1, k2, k3, k4⟩ := id hR.2.2.2.1
  have ho := hR.2.2.2.2.1
  have o16 := ho.1
  have hn6 := hR.2.1.1.2.1
  refine kt_enter (lv := [_, _]) (by decide +kernel) (Nat.le_of_ble_eq_true rfl) rfl ?_
  refine kt_iload_n (pc := 0) (kx_dd d_Mo_readOnce 0 rfl) rfl rfl ?_
  refine kt_tableIn (pc := 1) (tgt := 227) (kx_dd d_Mo_readOnce 1 rfl) (by decide) (by decide) rfl rfl ?_
  refine kt_aload_n (pc := 227) (kx_dd d_Mo_readOnce 90 rfl) rfl rfl ?_
  refine kt_bipush (pc := 228) (v := 6) (kx_dd d_Mo_readOnce 91 rfl) rfl ?_
  refine kt_aload_n (pc := 230) (kx_dd d_Mo_readOnce 92 rfl) rfl rfl ?_
  refine kt_ldcS (pc := 231) (k := 23) rfl rfl ks_23 (kx_dd d_Mo_readOnce 93 rfl) ?_
  refine kt_invV (pc := 233) (a := 84) (as := [_]) (kx_dd d_Mo_readOnce 94 rfl) ⟨lk_Mo_118, wi_Mo_is, we_Mo_is⟩ w_Mo_is (hm.k 0 rfl) rfl rfl rfl rfl (Nat.le_of_ble_eq_true rfl) (y_is (d := d + 4) hm b n i hR.2.1.1 hR.2.2.1 hR.2.2.2.1 (k := 23) (bs := [108, 101, 97, 115, 116]) rfl il_23) (Nat.le_refl _) ⟨Nat.le_refl _, Nat.le_refl _⟩ (fun v h' hq => ?_)
  obtain ⟨rfl, he⟩ := hq
  rw [he]
  clear he
  refine kt_if_eq (pc := 236) (tgt := 243) (kx_dd d_Mo_readOnce 95 rfl) rfl (fun c236 => ?_) (fun c236 => ?_)
  · refine kt_aload_n (pc := 243) (kx_dd d_Mo_readOnce 98 rfl) rfl rfl ?_
    refine kt_ldcS (pc := 244) (k := 24) rfl rfl ks_24 (kx_dd d_Mo_readOnce 99 rfl) ?_
    refine kt_invV (pc := 246) (a := 84) (as := [_]) (kx_dd d_Mo_readOnce 100 rfl) ⟨lk_Mo_118, wi_Mo_is, we_Mo_is⟩ w_Mo_is (hm.k 0 rfl) rfl rfl rfl rfl (Nat.le_of_ble_eq_true rfl) (y_is (d := d + 4) hm b n i hR.2.1.1 hR.2.2.1 hR.2.2.2.1 (k := 24) (bs := [109, 101, 97, 110]) rfl il_24) (Nat.le_refl _) ⟨Nat.le_refl _, Nat.le_refl _⟩ (fun v h' hq => ?_)
    obtain ⟨rfl, he⟩ := hq
    rw [he]
    clear he
    refine kt_if_eq (pc := 249) (tgt := 256) (kx_dd d_Mo_readOnce 101 rfl) rfl (fun c249 => ?_) (fun c249 => ?_)
    · refine kt_aload_n (pc := 256) (kx_dd d_Mo_readOnce 104 rfl) rfl rfl ?_
      refine kt_ldcS (pc := 257) (k := 25) rfl rfl ks_25 (kx_dd d_Mo_readOnce 105 rfl) ?_
      refine kt_invV (pc := 259) (a := 84) (as := [_]) (kx_dd d_Mo_readOnce 106 rfl) ⟨lk_Mo_118, wi_Mo_is, we_Mo_is⟩ w_Mo_is (hm.k 0 rfl) rfl rfl rfl rfl (Nat.le_of_ble_eq_true rfl) (y_is (d := d + 4) hm b n i hR.2.1.1 hR.2.2.1 hR.2.2.2.1 (k := 25) (bs := [117, 109, 112, 105, 114, 101]) rfl il_25) (Nat.le_refl _) ⟨Nat.le_refl _, Nat.le_refl _⟩ (fun v h' hq => ?_)
      obtain ⟨rfl, he⟩ := hq
      rw [he]
      clear he
      refine kt_if_eq (pc := 262) (tgt := 269) (kx_dd d_Mo_readOnce 107 rfl) rfl (fun c262 => ?_) (fun c262 => ?_)
      · refine kt_iconst (pc := 269) (v := -1) (kx_dd d_Mo_readOnce 110 rfl) rfl ?_
        refine kt_invV (pc := 270) (a := 84) (as := [_, _]) (kx_dd d_Mo_readOnce 111 rfl) ⟨lk_Mo_158, wi_Mo_told, we_Mo_told⟩ w_Mo_told (hm.k 0 rfl) rfl rfl rfl rfl (Nat.le_of_ble_eq_true rfl) (y_told (d := d + 8) hm 6 (by decide) (-1)) (Nat.le_refl _) ⟨Nat.le_refl _, Nat.le_refl _⟩ (fun v h' hq => ?_)
        revert h'
        intro h5 hq
        obtain ⟨rfl, rfl⟩ := hq
        have hR5 := hR.set (j := 6) (x := (-1))
        have hm := hR5.1
        rw [bP_0, iw_23 hR.2.2.1] at c236
        rw [bP_0, iw_24 hR.2.2.1] at c249
        rw [bP_0, iw_25 hR.2.2.1] at c262
        have ech : chO b n i nm3 = none := by
          cases hch : chO b n i nm3 with
          | none => rfl
          | some c =>
            obtain ⟨h1, h2⟩ := chO_get hch
            have hc := (chO_lt hch).2
            match c, hc with
            | 0, _ => exact absurd ⟨h1, (Option.some.inj h2).symm⟩ c236
            | 1, _ => exact absurd ⟨h1, (Option.some.inj h2).symm⟩ c249
            | 2, _ => exact absurd ⟨h1, (Option.some.inj h2).symm⟩ c262
            | m + 3, hc => exact absurd hc (by have : nm3.length = 3 := rfl; omega)
        refine kt_aload_n (pc := 273) (kx_dd d_Mo_readOnce 112 rfl) rfl rfl ?_
        refine kt_bipush (pc := 274) (v := 6) (kx_dd d_Mo_readOnce 113 rfl) rfl ?_
        refine kt_invT (a := 84) (as := [_]) (kx_dd d_Mo_readOnce 114 rfl) lm_Mo_173 wi_Mo_readChoice we_Mo_readChoice w_Mo_readChoice (hm.k 0 rfl) rfl rfl rfl rfl (Nat.le_of_ble_eq_true rfl) (y_readChoice (d := d + 6) b n i (ruSet r 6 (-1)) _ nw T z hR5 6 (by decide)) (Nat.le_refl _) ⟨Nat.le_refl _, Nat.le_refl _⟩ (fun v h' hq => ?_) (fun h' hz => Or.inl ⟨rfl, ⟨_, (show chcF b n i r 6 nm3 = .inl (1, tP b n i) by unfold chcF; simp only [ech]), hz.2.up WEx.rf (Nat.le_refl _) (kx_Fc.rf.tr FrD.set)⟩⟩)
        revert h'
        intro h6 hq
        obtain ⟨hne, rfl, hR6, hF6⟩ := hq
        have hm := hR6.1
        refine kt_goto (pc := 279) (tgt := 345) (kx_dd d_Mo_readOnce 115 rfl) rfl ?_
        refine kt_ofX (kx_vret (pc := 345) rfl (kx_dd d_Mo_readOnce 147 rfl) (Nat.le_refl _) (Nat.le_refl _) ?_)
        exact absurd ruSet_at hne
      · refine kt_iconst (pc := 265) (v := 2) (kx_dd d_Mo_readOnce 108 rfl) rfl ?_
        refine kt_goto (pc := 266) (tgt := 270) (kx_dd d_Mo_readOnce 109 rfl) rfl ?_
        refine kt_invV (pc := 270) (a := 84) (as := [_, _]) (kx_dd d_Mo_readOnce 111 rfl) ⟨lk_Mo_158, wi_Mo_told, we_Mo_told⟩ w_Mo_told (hm.k 0 rfl) rfl rfl rfl rfl (Nat.le_of_ble_eq_true rfl) (y_told (d := d + 8) hm 6 (by decide) 2) (Nat.le_refl _) ⟨Nat.le_refl _, Nat.le_refl _⟩ (fun v h' hq => ?_)
        revert h'
        intro h5 hq
        obtain ⟨rfl, rfl⟩ := hq
        have hR5 := hR.set (j := 6) (x := 2)
        have hm := hR5.1
        rw [bP_0, Classical.not_not, iw_25 hR.2.2.1] at c262
        have ech : chO b n i nm3 = some 2 := chO_of c262.1 c262.2 (by decide)
        refine kt_aload_n (pc := 273) (kx_dd d_Mo_readOnce 112 rfl) rfl rfl ?_
        refine kt_bipush (pc := 274) (v := 6) (kx_dd d_Mo_readOnce 113 rfl) rfl ?_
        refine kt_invT (a := 84) (as := [_]) (kx_dd d_Mo_readOnce 114 rfl) lm_Mo_173 wi_Mo_readChoice we_Mo_readChoice w_Mo_readChoice (hm.k 0 rfl) rfl rfl rfl rfl (Nat.le_of_ble_eq_true rfl) (y_readChoice (d := d + 6) b n i (ruSet r 6 2) _ nw T z hR5 6 (by decide)) (Nat.le_refl _) ⟨Nat.le_refl _, Nat.le_refl _⟩ (fun v h' hq => ?_) (fun h' hz => Or.inl ⟨rfl, absurd (show (2 : Int32) = -1 from (ruSet_at (r := r) (j := 6) (x := 2)).symm.trans hz.1) (by decide)⟩)
        revert h'
        intro h6 hq
        obtain ⟨hne, rfl, hR6, hF6⟩ := hq
        have hm := hR6.1
        refine kt_goto (pc := 279) (tgt := 345) (kx_dd d_Mo_readOnce 115 rfl) rfl ?_
        refine kt_ofX (kx_vret (pc := 345) rfl (kx_dd d_Mo_readOnce 147 rfl) (Nat.le_refl _) (Nat.le_refl _) ?_)
        exact ⟨(ruSet r 6 2, tE b n i), by show chcF b n i r 6 nm3 = _; unfold chcF; simp only [ech]; rfl, rfl, hR6, (kx_Fc.rf.tr FrD.set).tr hF6⟩
    · refine kt_iconst (pc := 252) (v := 1) (kx_dd d_Mo_readOnce 102 rfl) rfl ?_
      refine kt_goto (pc := 253) (tgt := 270) (kx_dd d_Mo_readOnce 103 rfl) rfl ?_
      refine kt_invV (pc := 270) (a := 84) (as := [_, _]) (kx_dd d_Mo_readOnce 111 rfl) ⟨lk_Mo_158, wi_Mo_told, we_Mo_told⟩ w_Mo_told (hm.k 0 rfl) rfl rfl rfl rfl (Nat.le_of_ble_eq_true rfl) (y_told (d := d + 8) hm 6 (by decide) 1) (Nat.le_refl _) ⟨Nat.le_refl _, Nat.le_refl _⟩ (fun v h' hq => ?_)
      revert h'
      intro h5 hq
      obtain ⟨rfl, rfl⟩ := hq
      have hR5 := hR.set (j := 6) (x := 1)
      have hm := hR5.1
      rw [bP_0, Classical.not_not, iw_24 hR.2.2.1] at c249
      have ech : chO b n i nm3 = some 1 := chO_of c249.1 c249.2 (by decide)
      refine kt_aload_n (pc := 273) (kx_dd d_Mo_readOnce 112 rfl) rfl rfl ?_
      refine kt_bipush (pc := 274) (v := 6) (kx_dd d_Mo_readOnce 113 rfl) rfl ?_
      refine kt_invT (a := 84) (as := [_]) (kx_dd d_Mo_readOnce 114 rfl) lm_Mo_173 wi_Mo_readChoice we_Mo_readChoice w_Mo_readChoice (hm.k 0 rfl) rfl rfl rfl rfl (Nat.le_of_ble_eq_true rfl) (y_readChoice (d := d + 6) b n i (ruSet r 6 1) _ nw T z hR5 6 (by decide)) (Nat.le_refl _) ⟨Nat.le_refl _, Nat.le_refl _⟩ (fun v h' hq => ?_) (fun h' hz => Or.inl ⟨rfl, absurd (show (1 : Int32) = -1 from (ruSet_at (r := r) (j := 6) (x := 1)).symm.trans hz.1) (by decide)⟩)
      revert h'
      intro h6 hq
      obtain ⟨hne, rfl, hR6, hF6⟩ := hq
      have hm := hR6.1
      refine kt_goto (pc := 279) (tgt := 345) (kx_dd d_Mo_readOnce 115 rfl) rfl ?_
      refine kt_ofX (kx_vret (pc := 345) rfl (kx_dd d_Mo_readOnce 147 rfl) (Nat.le_refl _) (Nat.le_refl _) ?_)
      exact ⟨(ruSet r 6 1, tE b n i), by show chcF b n i r 6 nm3 = _; unfold chcF; simp only [ech]; rfl, rfl, hR6, (kx_Fc.rf.tr FrD.set).tr hF6⟩
  · refine kt_iconst (pc := 239) (v := 0) (kx_dd d_Mo_readOnce 96 rfl) rfl ?_
    refine kt_goto (pc := 240) (tgt := 270) (kx_dd d_Mo_readOnce 97 rfl) rfl ?_
    refine kt_invV (pc := 270) (a := 84) (as := [_, _]) (kx_dd d_Mo_readOnce 111 rfl) ⟨lk_Mo_158, wi_Mo_told, we_Mo_told⟩ w_Mo_told (hm.k 0 rfl) rfl rfl rfl rfl (Nat.le_of_ble_eq_true rfl) (y_told (d := d + 8) hm 6 (by decide) 0) (Nat.le_refl _) ⟨Nat.le_refl _, Nat.le_refl _⟩ (fun v h' hq => ?_)
    revert h'
    intro h5 hq
    obtain ⟨rfl, rfl⟩ := hq
    have hR5 := hR.set (j := 6) (x := 0)
    have hm := hR5.1
    rw [bP_0, Classical.not_not, iw_23 hR.2.2.1] at c236
    have ech : chO b n i nm3 = some 0 := chO_of c236.1 c236.2 (by decide)
    refine kt_aload_n (pc := 273) (kx_dd d_Mo_readOnce 112 rfl) rfl rfl ?_
    refine kt_bipush (pc := 274) (v := 6) (kx_dd d_Mo_readOnce 113 rfl) rfl ?_
    refine kt_invT (a := 84) (as := [_]) (kx_dd d_Mo_readOnce 114 rfl) lm_Mo_173 wi_Mo_readChoice we_Mo_readChoice w_Mo_readChoice (hm.k 0 rfl) rfl rfl rfl rfl (Nat.le_of_ble_eq_true rfl) (y_readChoice (d := d + 6) b n i (ruSet r 6 0) _ nw T z hR5 6 (by decide)) (Nat.le_refl _) ⟨Nat.le_refl _, Nat.le_refl _⟩ (fun v h' hq => ?_) (fun h' hz => Or.inl ⟨rfl, absurd (show (0 : Int32) = -1 from (ruSet_at (r := r) (j := 6) (x := 0)).symm.trans hz.1) (by decide)⟩)
    revert h'
    intro h6 hq
    obtain ⟨hne, rfl, hR6, hF6⟩ := hq
    have hm := hR6.1
    refine kt_goto (pc := 279) (tgt := 345) (kx_dd d_Mo_readOnce 115 rfl) rfl ?_
    refine kt_ofX (kx_vret (pc := 345) rfl (kx_dd d_Mo_readOnce 147 rfl) (Nat.le_refl _) (Nat.le_refl _) ?_)
    exact ⟨(ruSet r 6 0, tE b n i), by show chcF b n i r 6 nm3 = _; unfold chcF; simp only [ech]; rfl, rfl, hR6, (kx_Fc.rf.tr FrD.set).tr hF6⟩
theorem y_once6 {l : Launch} {g : kx_G} {d : Nat} {h : kx_Mem} (b : Nat → Int32) (n i : Nat) (r : RU) (nw : Nat) (T : Nat → Nat) (z : Nat) (hR : RM b n i r (wfl r) nw T z h) : kt_Sp l g m_Mo_readOnce [.ref 84, .int 6] h (d + 9) 0 0 (fun v h' => ∃ q, bdF 5 b n i r = .inr q ∧ v = none ∧ RM b n q.2 q.1 (wfl q.1) nw T z h' ∧ kx_Fc FrD h h') (fun h' => ∃ f, bdF 5 b n i r = .inl f ∧ ZF f nw T z h h') := by
  have hm := hR.1
  have hin := hR.2.2.1
  have hki := tK_le (b := b) (n := n) (i := i)
  obtain ⟨k1, k2, k3, k4⟩ := id hR.2.2.2.1
  have ho := hR.2.2.2.2.1
  have o16 := ho.1
  have hn6 := hR.2.1.1.2.1
  refine kt_enter (lv := [_, _]) (by decide +kernel) (Nat.le_of_ble_eq_true rfl) rfl ?_
  refine kt_iload_n (pc := 0) (kx_dd d_Mo_readOnce 0 rfl) rfl rfl ?_
  refine kt_tableIn (pc := 1) (tgt := 282) (kx_dd d_Mo_readOnce 1 rfl) (by decide) (by decide) rfl rfl ?_
  refine kt_aload_n (pc := 282) (kx_dd d_Mo_readOnce 116 rfl) rfl rfl ?_
  refine kt_bipush (pc := 283) (v := 7) (kx_dd d_Mo_readOnce 117 rfl) rfl ?_
  refine kt_aload_n (pc := 285) (kx_dd d_Mo_readOnce 118 rfl) rfl rfl ?_
  refine kt_iconst (pc := 286) (v := 1) (kx_dd d_Mo_readOnce 119 rfl) rfl ?_
  refine kt_sipush (pc := 287) (v := 9999) (kx_dd d_Mo_readOnce 120 rfl) rfl ?_
  refine kt_invT (a := 84) (as := [_, _]) (kx_dd d_Mo_readOnce 121 rfl) lm_Mo_155 wi_Mo_number we_Mo_number w_Mo_number (hm.k 0 rfl) rfl rfl rfl rfl (Nat.le_of_ble_eq_true rfl) (y_number (d := d + 6) b n i r _ nw T z hR 1 9999 (by omega) (by omega)) (Nat.le_refl _) ⟨Nat.le_refl _, Nat.le_refl _⟩ (fun v h' hq => ?_) (fun h' hz => Or.inl ⟨rfl, (by obtain ⟨f, z1, z2⟩ := hz; exact ⟨f, by show setF2 b n i r 7 1 9999 = _; unfold setF2; rw [z1], z2⟩)⟩)
  revert h'
  intro h1 hq
  obtain ⟨q9, hN, rfl, hR1, hF1⟩ := hq
  have hF1 := kx_Fc.fs hF1
  have hm := hR1.1
  refine kt_invV (pc := 293) (a := 84) (as := [_, _]) (kx_dd d_Mo_readOnce 122 rfl) ⟨lk_Mo_158, wi_Mo_told, we_Mo_told⟩ w_Mo_told (hm.k 0 rfl) rfl rfl rfl rfl (Nat.le_of_ble_eq_true rfl) (y_told (d := d + 8) hm 7 (by decide) (nI q9.1)) (Nat.le_refl _) ⟨Nat.le_refl _, Nat.le_refl _⟩ (fun v h' hq => ?_)
  revert h'
  intro h2 hq
  obtain ⟨rfl, rfl⟩ := hq
  have hR2 := hR1.set (j := 7) (x := (nI q9.1))
  have hm := hR2.1
  refine kt_goto (pc := 296) (tgt := 345) (kx_dd d_Mo_readOnce 123 rfl) rfl ?_
  refine kt_ofX (kx_vret (pc := 345) rfl (kx_dd d_Mo_readOnce 147 rfl) (Nat.le_refl _) (Nat.le_refl _) ?_)
  exact ⟨(ruSet r 7 (nI q9.1), q9.2), by show setF2 b n i r 7 1 9999 = _; unfold setF2; rw [hN], rfl, hR2, hF1.tr FrD.set⟩
theorem y_once7 {l : Launch} {g : kx_G} {d : Nat} {h : kx_Mem} (b : Nat → Int32) (n i : Nat) (r : RU) (nw : Nat) (T : Nat → Nat) (z : Nat) (hR : RM b n i r (wfl r) nw T z h) : kt_Sp l g m_Mo_readOnce [.ref 84, .int 7] h (d + 9) 0 0 (fun v h' => ∃ q, bdF 6 b n i r = .inr q ∧ v = none ∧ RM b n q.2 q.1 (wfl q.1) nw T z h' ∧ kx_Fc FrD h h') (fun h' => ∃ f, bdF 6 b n i r = .inl f ∧ ZF f nw T z h h') := by
  have hm := hR.1
  have hin := hR.2.2.1
  have hki := tK_le (b := b) (n := n) (i := i)
  obtain ⟨k1, k2, k3, k4⟩ := id hR.2.2.2.1
  have ho := hR.2.2.2.2.1
  have o16 := ho.1
  have hn6 := hR.2.1.1.2.1
  refine kt_enter (lv := [_, _]) (by decide +kernel) (Nat.le_of_ble_eq_true rfl) rfl ?_
  refine kt_iload_n (pc := 0) (kx_dd d_Mo_readOnce 0 rfl) rfl rfl ?_
  refine kt_tableIn (pc := 1) (tgt := 299) (kx_dd d_Mo_readOnce 1 rfl) (by decide) (by decide) rfl rfl ?_
  refine kt_aload_n (pc := 299) (kx_dd d_Mo_readOnce 124 rfl) rfl rfl ?_
  refine kt_bipush (pc := 300) (v := 8) (kx_dd d_Mo_readOnce 125 rfl) rfl ?_
  refine kt_aload_n (pc := 302) (kx_dd d_Mo_readOnce 126 rfl) rfl rfl ?_
  refine kt_iconst (pc := 303) (v := 0) (kx_dd d_Mo_readOnce 127 rfl) rfl ?_
  refine kt_bipush (pc := 304) (v := 10) (kx_dd d_Mo_readOnce 128 rfl) rfl ?_
  refine kt_invT (a := 84) (as := [_, _]) (kx_dd d_Mo_readOnce 129 rfl) lm_Mo_155 wi_Mo_number we_Mo_number w_Mo_number (hm.k 0 rfl) rfl rfl rfl rfl (Nat.le_of_ble_eq_true rfl) (y_number (d := d + 6) b n i r _ nw T z hR 0 10 (by omega) (by omega)) (Nat.le_refl _) ⟨Nat.le_refl _, Nat.le_refl _⟩ (fun v h' hq => ?_) (fun h' hz => Or.inl ⟨rfl, (by obtain ⟨f, z1, z2⟩ := hz; exact ⟨f, by show setF2 b n i r 8 0 10 = _; unfold setF2; rw [z1], z2⟩)⟩)
  revert h'
  intro h1 hq
  obtain ⟨q9, hN, rfl, hR1, hF1⟩ := hq
  have hF1 := kx_Fc.fs hF1
  have hm := hR1.1
  refine kt_invV (pc := 309) (a := 84) (as := [_, _]) (kx_dd d_Mo_readOnce 130 rfl) ⟨lk_Mo_158, wi_Mo_told, we_Mo_told⟩ w_Mo_told (hm.k 0 rfl) rfl rfl rfl rfl (Nat.le_of_ble_eq_true rfl) (y_told (d := d + 8) hm 8 (by decide) (nI q9.1)) (Nat.le_refl _) ⟨Nat.le_refl _, Nat.le_refl _⟩ (fun v h' hq => ?_)
  revert h'
  intro h2 hq
  obtain ⟨rfl, rfl⟩ := hq
  have hR2 := hR1.set (j := 8) (x := (nI q9.1))
  have hm := hR2.1
  refine kt_goto (pc := 312) (tgt := 345) (kx_dd d_Mo_readOnce 131 rfl) rfl ?_
  refine kt_ofX (kx_vret (pc := 345) rfl (kx_dd d_Mo_readOnce 147 rfl) (Nat.le_refl _) (Nat.le_refl _) ?_)
  exact ⟨(ruSet r 8 (nI q9.1), q9.2), by show setF2 b n i r 8 0 10 = _; unfold setF2; rw [hN], rfl, hR2, hF1.tr FrD.set⟩
theorem y_once8 {l : Launch} {g : kx_G} {d : Nat} {h : kx_Mem} (b : Nat → Int32) (n i : Nat) (r : RU) (nw : Nat) (T : Nat → Nat) (z : Nat) (hR : RM b n i r (wfl r) nw T z h) : kt_Sp l g m_Mo_readOnce [.ref 84, .int 8] h (d + 9) 0 0 (fun v h' => ∃ q, bdF 7 b n i r = .inr q ∧ v = none ∧ RM b n q.2 q.1 (wfl q.1) nw T z h' ∧ kx_Fc FrD h h') (fun h' => ∃ f, bdF 7 b n i r = .inl f ∧ ZF f nw T z h h') := by
  have hm := hR.1
  have hin := hR.2.2.1
  have hki := tK_le (b := b) (n := n) (i := i)
  obtain ⟨k1, k2, k3, k4⟩ := id hR.2.2.2.1
  have ho := hR.2.2.2.2.1
  have o16 := ho.1
  have hn6 := hR.2.1.1.2.1
  refine kt_enter (lv := [_, _]) (by decide +kernel) (Nat.le_of_ble_eq_true rfl) rfl ?_
  refine kt_iload_n (pc := 0) (kx_dd d_Mo_readOnce 0 rfl) rfl rfl ?_
  refine kt_tableIn (pc := 1) (tgt := 315) (kx_dd d_Mo_readOnce 1 rfl) (by decide) (by decide) rfl rfl ?_
  refine kt_aload_n (pc := 315) (kx_dd d_Mo_readOnce 132 rfl) rfl rfl ?_
  refine kt_bipush (pc := 316) (v := 9) (kx_dd d_Mo_readOnce 133 rfl) rfl ?_
  refine kt_aload_n (pc := 318) (kx_dd d_Mo_readOnce 134 rfl) rfl rfl ?_
  refine kt_iconst (pc := 319) (v := 0) (kx_dd d_Mo_readOnce 135 rfl) rfl ?_
  refine kt_sipush (pc := 320) (v := 1999) (kx_dd d_Mo_readOnce 136 rfl) rfl ?_
  refine kt_invT (a := 84) (as := [_, _]) (kx_dd d_Mo_readOnce 137 rfl) lm_Mo_155 wi_Mo_number we_Mo_number w_Mo_number (hm.k 0 rfl) rfl rfl rfl rfl (Nat.le_of_ble_eq_true rfl) (y_number (d := d + 6) b n i r _ nw T z hR 0 1999 (by omega) (by omega)) (Nat.le_refl _) ⟨Nat.le_refl _, Nat.le_refl _⟩ (fun v h' hq => ?_) (fun h' hz => Or.inl ⟨rfl, (by obtain ⟨f, z1, z2⟩ := hz; exact ⟨f, by show setF2 b n i r 9 0 1999 = _; unfold setF2; rw [z1], z2⟩)⟩)
  revert h'
  intro h1 hq
  obtain ⟨q9, hN, rfl, hR1, hF1⟩ := hq
  have hF1 := kx_Fc.fs hF1
  have hm := hR1.1
  refine kt_invV (pc := 326) (a := 84) (as := [_, _]) (kx_dd d_Mo_readOnce 138 rfl) ⟨lk_Mo_158, wi_Mo_told, we_Mo_told⟩ w_Mo_told (hm.k 0 rfl) rfl rfl rfl rfl (Nat.le_of_ble_eq_true rfl) (y_told (d := d + 8) hm 9 (by decide) (nI q9.1)) (Nat.le_refl _) ⟨Nat.le_refl _, Nat.le_refl _⟩ (fun v h' hq => ?_)
  revert h'
  intro h2 hq
  obtain ⟨rfl, rfl⟩ := hq
  have hR2 := hR1.set (j := 9) (x := (nI q9.1))
  have hm := hR2.1
  refine kt_goto (pc := 329) (tgt := 345) (kx_dd d_Mo_readOnce 139 rfl) rfl ?_
  refine kt_ofX (kx_vret (pc := 345) rfl (kx_dd d_Mo_readOnce 147 rfl) (Nat.le_refl _) (Nat.le_refl _) ?_)
  exact ⟨(ruSet r 9 (nI q9.1), q9.2), by show setF2 b n i r 9 0 1999 = _; unfold setF2; rw [hN], rfl, hR2, hF1.tr FrD.set⟩
theorem y_once9 {l : Launch} {g : kx_G} {d : Nat} {h : kx_Mem} (b : Nat → Int32) (n i : Nat) (r : RU) (nw : Nat) (T : Nat → Nat) (z : Nat) (hR : RM b n i r (wfl r) nw T z h) : kt_Sp l g m_Mo_readOnce [.ref 84, .int 9] h (d + 9) 0 0 (fun v h' => ∃ q, bdF 8 b n i r = .inr q ∧ v = none ∧ RM b n q.2 q.1 (wfl q.1) nw T z h' ∧ kx_Fc FrD h h') (fun h' => ∃ f, bdF 8 b n i r = .inl f ∧ ZF f nw T z h h') := by
  have hm := hR.1
  have hin := hR.2.2.1
  have hki := tK_le (b := b) (n := n) (i := i)
  obtain ⟨k1, k2, k3, k4⟩ := id hR.2.2.2.1
  have ho := hR.2.2.2.2.1
  have o16 := ho.1
  have hn6 := hR.2.1.1.2.1
  refine kt_enter (lv := [_, _]) (by decide +kernel) (Nat.le_of_ble_eq_true rfl) rfl ?_
  refine kt_iload_n (pc := 0) (kx_dd d_Mo_readOnce 0 rfl) rfl rfl ?_
  refine kt_tableOut (pc := 1) (tgt := 332) (kx_dd d_Mo_readOnce 1 rfl) (by decide) rfl ?_
  refine kt_aload_n (pc := 332) (kx_dd d_Mo_readOnce 140 rfl) rfl rfl ?_
  refine kt_bipush (pc := 333) (v := 10) (kx_dd d_Mo_readOnce 141 rfl) rfl ?_
  refine kt_aload_n (pc := 335) (kx_dd d_Mo_readOnce 142 rfl) rfl rfl ?_
  refine kt_iconst (pc := 336) (v := 1) (kx_dd d_Mo_readOnce 143 rfl) rfl ?_
  refine kt_bipush (pc := 337) (v := 100) (kx_dd d_Mo_readOnce 144 rfl) rfl ?_
  refine kt_invT (a := 84) (as := [_, _]) (kx_dd d_Mo_readOnce 145 rfl) lm_Mo_155 wi_Mo_number we_Mo_number w_Mo_number (hm.k 0 rfl) rfl rfl rfl rfl (Nat.le_of_ble_eq_true rfl) (y_number (d := d + 6) b n i r _ nw T z hR 1 100 (by omega) (by omega)) (Nat.le_refl _) ⟨Nat.le_refl _, Nat.le_refl _⟩ (fun v h' hq => ?_) (fun h' hz => Or.inl ⟨rfl, (by obtain ⟨f, z1, z2⟩ := hz; exact ⟨f, by show setF2 b n i r 10 1 100 = _; unfold setF2; rw [z1], z2⟩)⟩)
  revert h'
  intro h1 hq
  obtain ⟨q9, hN, rfl, hR1, hF1⟩ := hq
  have hF1 := kx_Fc.fs hF1
  have hm := hR1.1
  refine kt_invV (pc := 342) (a := 84) (as := [_, _]) (kx_dd d_Mo_readOnce 146 rfl) ⟨lk_Mo_158, wi_Mo_told, we_Mo_told⟩ w_Mo_told (hm.k 0 rfl) rfl rfl rfl rfl (Nat.le_of_ble_eq_true rfl) (y_told (d := d + 8) hm 10 (by decide) (nI q9.1)) (Nat.le_refl _) ⟨Nat.le_refl _, Nat.le_refl _⟩ (fun v h' hq => ?_)
  revert h'
  intro h2 hq
  obtain ⟨rfl, rfl⟩ := hq
  have hR2 := hR1.set (j := 10) (x := (nI q9.1))
  have hm := hR2.1
  refine kt_ofX (kx_vret (pc := 345) rfl (kx_dd d_Mo_readOnce 147 rfl) (Nat.le_refl _) (Nat.le_refl _) ?_)
  exact ⟨(ruSet r 10 (nI q9.1), q9.2), by show setF2 b n i r 10 1 100 = _; unfold setF2; rw [hN], rfl, hR2, hF1.tr FrD.set⟩
