/-! the class: RulesReader, its pieces -/
def FrI (a x j : Nat) : Prop := (x = 1 ∧ 2 ≤ j ∧ j ≤ 5) ∨ (x = 3 ∧ 3 ≤ j ∧ j ≤ 4) ∨ (a ≤ x ∧ x ≤ a + 8)
def FrL (a x j : Nat) : Prop := (x = 1 ∧ j = 6) ∨ (a ≤ x ∧ x ≤ a + 8)
abbrev kx_Fd (a : Nat) (h h' : kx_Mem) : Prop := kx_Fg (FrI a) (FrL a) h h'
/-- the reader at work: tape, the next token's place, the draft -/
def RD (a : Nat) (b : Nat → Int32) (n i : Nat) (r : RU) (h : kx_Mem) : Prop := SC h ∧ TapC b n h ∧ i ≤ n ∧ h.1 1 2 = nI i ∧ h.2.2.1 3 1 = some a ∧ isRuA a ∧ RUok r ∧ RUc r a h ∧ h.1 3 3 = 0 ∧ h.1 3 4 = -1
theorem isRuA.g {a : Nat} (h : isRuA a) : 4 ≤ a ∧ a ≤ 75 ∧ (a ≤ 4 ∨ 48 ≤ a) := by unfold isRuA at h; omega
theorem kx_Fg.d {a : Nat} {h h' : kx_Mem} (hf : kx_Ft h h') : kx_Fd a h h' := hf.mono (fun x j z => Or.inl z) (fun x j z => Or.inl z)
theorem RUc.ft {r : RU} {a : Nat} {h h' : kx_Mem} (ha : isRuA a) (hp : RUc r a h) (hf : kx_Ft h h') : RUc r a h' := by
  have hg := ha.g
  have e : ∀ x j, 4 ≤ x → h'.1 x j = h.1 x j := fun x j hx => hf.1 x j (by unfold FtI; omega)
  have eL : ∀ x j, 4 ≤ x → h'.2.1 x j = h.2.1 x j := fun x j hx => hf.2.1 x j (by unfold FtL; omega)
  obtain ⟨h1, h2, h3, h4, h5, h6, h7, h8, h9⟩ := hp
  exact ⟨fun k hk => by rw [e _ _ (by omega)]; exact h1 k hk, fun k hk => by rw [e _ _ (by omega)]; exact h2 k hk, by rw [e _ _ (by omega)]; exact h3, fun k hk => ⟨by rw [eL _ _ (by omega)]; exact (h4 k hk).1, by rw [e _ _ (by omega)]; exact (h4 k hk).2⟩, by rw [e _ _ (by omega)]; exact h5, fun k hk => ⟨by rw [eL _ _ (by omega)]; exact (h6 k hk).1, by rw [e _ _ (by omega)]; exact (h6 k hk).2⟩, by rw [e _ _ (by omega)]; exact h7, by rw [e _ _ (by omega)]; exact h8, fun i y hy => ⟨by rw [eL _ _ (by omega)]; exact (h9 i y hy).1, by rw [e _ _ (by omega)]; exact (h9 i y hy).2⟩⟩
theorem RD.tok {a : Nat} {b : Nat → Int32} {n i : Nat} {r : RU} {h h' : kx_Mem} (hR : RD a b n i r h) (hto : TokC b n i h') (hft : kx_Ft h h') : RD a b n (tE b n i) r h' :=
  ⟨hR.1.fg hft, hR.2.1.ft hft, (tE_n hR.2.2.1).1, hto.1, by rw [hft.2.2]; exact hR.2.2.2.2.1, hR.2.2.2.2.2.1, hR.2.2.2.2.2.2.1, hR.2.2.2.2.2.2.2.1.ft hR.2.2.2.2.2.1 hft, (hft.1 3 3 (by unfold FtI; omega)).trans hR.2.2.2.2.2.2.2.2.1, (hft.1 3 4 (by unfold FtI; omega)).trans hR.2.2.2.2.2.2.2.2.2⟩
theorem RD.fault {a : Nat} {h h1 : kx_Mem} {k x : Int32} (hf : kx_Fd a h h1) : kx_Fd a h (kx_setI (kx_setI h1 3 3 k) 3 4 x) := (hf.tr (kx_Fg.setI (Or.inr (Or.inl ⟨rfl, by decide, by decide⟩)))).tr (kx_Fg.setI (Or.inr (Or.inl ⟨rfl, by decide, by decide⟩)))
def FaQ (f : Fa) (h' : kx_Mem) : Prop := h'.1 3 3 = nI f.1 ∧ h'.1 3 4 = nI f.2
theorem FaQ.of {h1 : kx_Mem} {k p : Nat} (e : h1.1 1 4 = nI p) : FaQ (k, p) (kx_setI (kx_setI h1 3 3 (nI k)) 3 4 ((kx_setI h1 3 3 (nI k)).1 1 4)) := by
  refine ⟨?_, ?_⟩
  · rw [setI_ne (Or.inr (by decide))]; exact setI_at
  · rw [setI_at, setI_ne (Or.inl (by decide))]; exact e
def PoD (a : Nat) (b : Nat → Int32) (n : Nat) (h : kx_Mem) (v : Option Value) (h' : kx_Mem) (res : Fa ⊕ (RU × Nat)) : Prop := kx_Fd a h h' ∧ match res with
  | .inl f => v = some (.int 0) ∧ FaQ f h'
  | .inr q => v = some (.int 1) ∧ RD a b n q.2 q.1 h'
def PoN (a : Nat) (b : Nat → Int32) (n : Nat) (r : RU) (h : kx_Mem) (v : Option Value) (h' : kx_Mem) (res : Fa ⊕ (Nat × Nat)) : Prop := kx_Fd a h h' ∧ match res with
  | .inl f => v = some (.int 0) ∧ FaQ f h'
  | .inr q => v = some (.int 1) ∧ RD a b n q.2 r h' ∧ h'.1 1 5 = nI q.1
def PoK (a : Nat) (b : Nat → Int32) (n : Nat) (h : kx_Mem) (v : Option Value) (h' : kx_Mem) (res : Fa ⊕ (Nat × RU × Nat)) : Prop := kx_Fd a h h' ∧ match res with
  | .inl f => v = some (.int (-1)) ∧ FaQ f h'
  | .inr q => v = some (.int (nI q.1)) ∧ RD a b n q.2.2 q.2.1 h' ∧ q.1 < ruK q.2.1
/-- the draft written -/
theorem RD.put {a : Nat} {b : Nat → Int32} {n i : Nat} {r r' : RU} {h h' : kx_Mem} (hR : RD a b n i r h) (hf : kx_Fg (fun x j => a ≤ x ∧ x ≤ a + 8) (fun x j => a ≤ x ∧ x ≤ a + 8) h h') (ho : RUok r') (hp : RUc r' a h') : RD a b n i r' h' ∧ kx_Fd a h h' := by
  have hg := hR.2.2.2.2.2.1.g
  have hfd : kx_Fd a h h' := hf.mono (fun x j z => Or.inr (Or.inr z)) (fun x j z => Or.inr z)
  refine ⟨⟨hR.1.fg hf, ⟨(hf.1 1 1 (by omega)).trans hR.2.1.1, hR.2.1.2.1, fun k hk => (hf.1 2 k (by omega)).trans (hR.2.1.2.2 k hk)⟩, hR.2.2.1, (hf.1 1 2 (by omega)).trans hR.2.2.2.1, by rw [hf.2.2]; exact hR.2.2.2.2.1, hR.2.2.2.2.2.1, ho, hp, (hf.1 3 3 (by omega)).trans hR.2.2.2.2.2.2.2.2.1, (hf.1 3 4 (by omega)).trans hR.2.2.2.2.2.2.2.2.2⟩, hfd⟩
theorem x_Re_refuse {l : Launch} {g : kx_G} {d : Nat} {h : kx_Mem} (hs : SC h) (k : Int32) : kx_Sp l g m_Re_refuse [.ref 3, .int k] h (d) 0 0 (fun v h' => v = some (.int 0) ∧ h' = kx_setI (kx_setI h 3 3 k) 3 4 ((kx_setI h 3 3 k).1 1 4)) := by
  refine kx_enter_e (lv := [_, _]) (by decide +kernel) (Nat.le_of_ble_eq_true rfl) rfl ?_
  refine kx_aload_n (pc := 0) (kx_dd d_Re_refuse 0 rfl) rfl rfl ?_
  refine kx_iload_n (pc := 1) (kx_dd d_Re_refuse 1 rfl) rfl rfl ?_
  refine kx_putI (pc := 2) fl_Re_32 (hs.k 3 rfl) (by decide) rfl rfl (kx_dd d_Re_refuse 2 rfl) ?_
  refine kx_aload_n (pc := 5) (kx_dd d_Re_refuse 3 rfl) rfl rfl ?_
  refine kx_aload_n (pc := 6) (kx_dd d_Re_refuse 4 rfl) rfl rfl ?_
  refine kx_getR (pc := 7) (b := 1) fl_Re_22 (hs.k 3 rfl) rfl (hs.r 10 rfl) (kx_dd d_Re_refuse 5 rfl) ?_
  refine kx_getI (pc := 10) fl_Re_166 (hs.k 1 rfl) rfl (kx_dd d_Re_refuse 6 rfl) ?_
  refine kx_putI (pc := 13) fl_Re_18 (hs.k 3 rfl) (by decide) rfl rfl (kx_dd d_Re_refuse 7 rfl) ?_
  refine kx_iconst (pc := 16) (v := 0) (kx_dd d_Re_refuse 8 rfl) rfl ?_
  refine kx_zret (pc := 17) rfl rfl (kx_dd d_Re_refuse 9 rfl) (Nat.le_refl _) (Nat.le_refl _) ?_
  exact ⟨rfl, rfl⟩
theorem x_Re_readNumber {l : Launch} {g : kx_G} {d : Nat} {h : kx_Mem} (a : Nat) (b : Nat → Int32) (n i : Nat) (r : RU) (hR : RD a b n i r h) (lo hi : Nat) (hlo : lo < 2 ^ 31) (hhi : hi < 2 ^ 31) : kx_Sp l g m_Re_readNumber [.ref 3, .int (nI lo), .int (nI hi)] h (d + 3) 0 0 (fun v h' => PoN a b n r h v h' (numF b n i lo hi)) := by
  have hs := hR.1
  have hd := hR.2.2.2.2.1
  have ha := hR.2.2.2.2.2.1
  have hg := ha.g
  have hr := IsRu.of hs ha
  have hin := hR.2.2.1
  have ho := hR.2.2.2.2.2.2.1
  have oa := hr.2.2.2.2.2.2.2.2.2.2.2.2.2.2.2.2.2
  have o16 := ho.1
  refine kx_enter_e (lv := [_, _, _]) (by decide +kernel) (Nat.le_of_ble_eq_true rfl) rfl ?_
  refine kx_aload_n (pc := 0) (kx_dd d_Re_readNumber 0 rfl) rfl rfl ?_
  refine kx_getR (pc := 1) (b := 1) fl_Re_22 (hs.k 3 rfl) rfl (hs.r 10 rfl) (kx_dd d_Re_readNumber 1 rfl) ?_
  refine kx_invV (pc := 4) (a := 1) (as := []) (kx_dd d_Re_readNumber 2 rfl) ⟨lk_Re_40, wi_Ta_readToken, we_Ta_readToken⟩ w_Ta_readToken (hs.k 1 rfl) rfl rfl rfl rfl (Nat.le_of_ble_eq_true rfl) (x_Ta_readToken (d := d) hR.1 b n i hR.2.1 hR.2.2.1 hR.2.2.2.1) (Nat.le_refl _) ⟨Nat.le_refl _, Nat.le_refl _⟩ (fun v h' hq => ?_)
  revert h'
  intro h1 hq
  obtain ⟨rfl, hto, hft⟩ := hq
  have hR1 := hR.tok hto hft
  have hF1 : kx_Fd a h h1 := hft.d
  obtain ⟨k1, k2, k3, k4, k5⟩ := id hto
  have hki := tK_le (b := b) (n := n) (i := i)
  have hs := hR1.1
  have hd := hR1.2.2.2.2.1
  have hr := IsRu.of hs hR1.2.2.2.2.2.1
  refine kx_aload_n (pc := 7) (kx_dd d_Re_readNumber 3 rfl) rfl rfl ?_
  refine kx_getR (pc := 8) (b := 1) fl_Re_22 (hs.k 3 rfl) rfl (hs.r 10 rfl) (kx_dd d_Re_readNumber 4 rfl) ?_
  refine kx_getI (pc := 11) fl_Re_43 (hs.k 1 rfl) rfl (kx_dd d_Re_readNumber 5 rfl) ?_
  refine kx_iconst (pc := 14) (v := 2) (kx_dd d_Re_readNumber 6 rfl) rfl ?_
  refine kx_icmp_eq (pc := 15) (tgt := 24) (kx_dd d_Re_readNumber 7 rfl) rfl (fun c15 => ?_) (fun c15 => ?_)
  · refine kx_aload_n (pc := 24) (kx_dd d_Re_readNumber 12 rfl) rfl rfl ?_
    refine kx_getR (pc := 25) (b := 1) fl_Re_22 (hs.k 3 rfl) rfl (hs.r 10 rfl) (kx_dd d_Re_readNumber 13 rfl) ?_
    refine kx_getI (pc := 28) fl_Re_115 (hs.k 1 rfl) rfl (kx_dd d_Re_readNumber 14 rfl) ?_
    refine kx_iload_n (pc := 31) (kx_dd d_Re_readNumber 15 rfl) rfl rfl ?_
    refine kx_iload_n (pc := 32) (kx_dd d_Re_readNumber 16 rfl) rfl rfl ?_
    refine kx_invS (pc := 33) (as := [_, _, _]) (kx_dd d_Re_readNumber 17 rfl) ⟨lk_Re_163, wt_Tc_within⟩ w_Tc_within rfl rfl (Nat.le_of_ble_eq_true rfl) (x_Tc_within (d := d + 2) _ _ _) (Nat.le_refl _) ⟨Nat.le_refl _, Nat.le_refl _⟩ (fun v h' hq => ?_)
    obtain ⟨rfl, he⟩ := hq
    rw [he]
    clear he
    refine kx_if_ne (pc := 36) (tgt := 47) (kx_dd d_Re_readNumber 18 rfl) rfl (fun c36 => ?_) (fun c36 => ?_)
    · refine kx_iconst (pc := 47) (v := 1) (kx_dd d_Re_readNumber 23 rfl) rfl ?_
      refine kx_goto (pc := 48) (tgt := 52) (kx_dd d_Re_readNumber 24 rfl) rfl ?_
      refine kx_zret (pc := 52) rfl rfl (kx_dd d_Re_readNumber 26 rfl) (Nat.le_refl _) (Nat.le_refl _) ?_
      rw [k2, show (2 : Int32) = nI 2 from rfl, nI_eq (by omega) (by decide)] at c15
      have hv := tV_lt hin c15
      rw [k5 c15, bP_0] at c36
      rw [nI_leI (by omega) (by omega), nI_leI (by omega) (by omega)] at c36
      rw [Classical.not_not] at c36
      have e9 : numF b n i lo hi = .inr (tV b n i, tE b n i) := by
        unfold numF
        rw [if_pos c15, if_pos c36]
      rw [e9]
      exact ⟨hF1, rfl, hR1, k5 c15⟩
    · refine kx_aload_n (pc := 39) (kx_dd d_Re_readNumber 19 rfl) rfl rfl ?_
      refine kx_iconst (pc := 40) (v := 2) (kx_dd d_Re_readNumber 20 rfl) rfl ?_
      refine kx_invV (pc := 41) (a := 3) (as := [_]) (kx_dd d_Re_readNumber 21 rfl) ⟨lk_Re_63, wi_Re_refuse, we_Re_refuse⟩ w_Re_refuse (hs.k 3 rfl) rfl rfl rfl rfl (Nat.le_of_ble_eq_true rfl) (x_Re_refuse (d := d + 2) hs (nI 2)) (Nat.le_refl _) ⟨Nat.le_refl _, Nat.le_refl _⟩ (fun v h' hq => ?_)
      revert h'
      intro h9 hq
      obtain ⟨rfl, rfl⟩ := hq
      refine kx_if_eq (pc := 44) (tgt := 51) (kx_dd d_Re_readNumber 22 rfl) rfl (fun c44 => ?_) (fun c44 => ?_)
      · refine kx_iconst (pc := 51) (v := 0) (kx_dd d_Re_readNumber 25 rfl) rfl ?_
        refine kx_zret (pc := 52) rfl rfl (kx_dd d_Re_readNumber 26 rfl) (Nat.le_refl _) (Nat.le_refl _) ?_
        skip
        rw [k2, show (2 : Int32) = nI 2 from rfl, nI_eq (by omega) (by decide)] at c15
        have hv := tV_lt hin c15
        rw [k5 c15, bP_0] at c36
        rw [nI_leI (by omega) (by omega), nI_leI (by omega) (by omega)] at c36
        have e9 : numF b n i lo hi = .inl (2, tP b n i) := by
          unfold numF
          rw [if_pos c15, if_neg c36]
        rw [e9]
        exact ⟨RD.fault hF1, rfl, FaQ.of (k := 2) k3⟩
      · exact absurd rfl c44
  · refine kx_aload_n (pc := 18) (kx_dd d_Re_readNumber 8 rfl) rfl rfl ?_
    refine kx_iconst (pc := 19) (v := 1) (kx_dd d_Re_readNumber 9 rfl) rfl ?_
    refine kx_invV (pc := 20) (a := 3) (as := [_]) (kx_dd d_Re_readNumber 10 rfl) ⟨lk_Re_63, wi_Re_refuse, we_Re_refuse⟩ w_Re_refuse (hs.k 3 rfl) rfl rfl rfl rfl (Nat.le_of_ble_eq_true rfl) (x_Re_refuse (d := d + 2) hs (nI 1)) (Nat.le_refl _) ⟨Nat.le_refl _, Nat.le_refl _⟩ (fun v h' hq => ?_)
    revert h'
    intro h9 hq
    obtain ⟨rfl, rfl⟩ := hq
    refine kx_zret (pc := 23) rfl rfl (kx_dd d_Re_readNumber 11 rfl) (Nat.le_refl _) (Nat.le_refl _) ?_
    rw [k2, show (2 : Int32) = nI 2 from rfl, nI_eq (by omega) (by decide)] at c15
    have e9 : numF b n i lo hi = .inl (1, tP b n i) := if_neg c15
    rw [e9]
    exact ⟨RD.fault hF1, rfl, FaQ.of (k := 1) k3⟩
theorem x_Re_readWord {l : Launch} {g : kx_G} {d : Nat} {h : kx_Mem} (a : Nat) (b : Nat → Int32) (n i : Nat) (r : RU) (hR : RD a b n i r h) : kx_Sp l g m_Re_readWord [.ref 3] h (d + 3) 0 0 (fun v h' => kx_Fd a h h' ∧ (tK b n i = 1 → v = some (.int 1) ∧ RD a b n (tE b n i) r h' ∧ h'.2.1 1 6 = lN (tW b n i) ∧ h'.1 1 4 = nI (tP b n i)) ∧ (tK b n i ≠ 1 → v = some (.int 0) ∧ FaQ (1, tP b n i) h')) := by
  have hs := hR.1
  have hd := hR.2.2.2.2.1
  have ha := hR.2.2.2.2.2.1
  have hg := ha.g
  have hr := IsRu.of hs ha
  have hin := hR.2.2.1
  have ho := hR.2.2.2.2.2.2.1
  have oa := hr.2.2.2.2.2.2.2.2.2.2.2.2.2.2.2.2.2
  have o16 := ho.1
  refine kx_enter_e (lv := [_]) (by decide +kernel) (Nat.le_of_ble_eq_true rfl) rfl ?_
  refine kx_aload_n (pc := 0) (kx_dd d_Re_readWord 0 rfl) rfl rfl ?_
  refine kx_getR (pc := 1) (b := 1) fl_Re_22 (hs.k 3 rfl) rfl (hs.r 10 rfl) (kx_dd d_Re_readWord 1 rfl) ?_
  refine kx_invV (pc := 4) (a := 1) (as := []) (kx_dd d_Re_readWord 2 rfl) ⟨lk_Re_40, wi_Ta_readToken, we_Ta_readToken⟩ w_Ta_readToken (hs.k 1 rfl) rfl rfl rfl rfl (Nat.le_of_ble_eq_true rfl) (x_Ta_readToken (d := d) hR.1 b n i hR.2.1 hR.2.2.1 hR.2.2.2.1) (Nat.le_refl _) ⟨Nat.le_refl _, Nat.le_refl _⟩ (fun v h' hq => ?_)
  revert h'
  intro h1 hq
  obtain ⟨rfl, hto, hft⟩ := hq
  have hR1 := hR.tok hto hft
  have hF1 : kx_Fd a h h1 := hft.d
  obtain ⟨k1, k2, k3, k4, k5⟩ := id hto
  have hki := tK_le (b := b) (n := n) (i := i)
  have hs := hR1.1
  have hd := hR1.2.2.2.2.1
  have hr := IsRu.of hs hR1.2.2.2.2.2.1
  refine kx_aload_n (pc := 7) (kx_dd d_Re_readWord 3 rfl) rfl rfl ?_
  refine kx_getR (pc := 8) (b := 1) fl_Re_22 (hs.k 3 rfl) rfl (hs.r 10 rfl) (kx_dd d_Re_readWord 4 rfl) ?_
  refine kx_getI (pc := 11) fl_Re_43 (hs.k 1 rfl) rfl (kx_dd d_Re_readWord 5 rfl) ?_
  refine kx_iconst (pc := 14) (v := 1) (kx_dd d_Re_readWord 6 rfl) rfl ?_
  refine kx_icmp_eq (pc := 15) (tgt := 26) (kx_dd d_Re_readWord 7 rfl) rfl (fun c15 => ?_) (fun c15 => ?_)
  · refine kx_iconst (pc := 26) (v := 1) (kx_dd d_Re_readWord 12 rfl) rfl ?_
    refine kx_goto (pc := 27) (tgt := 31) (kx_dd d_Re_readWord 13 rfl) rfl ?_
    refine kx_zret (pc := 31) rfl rfl (kx_dd d_Re_readWord 15 rfl) (Nat.le_refl _) (Nat.le_refl _) ?_
    rw [k2, show (1 : Int32) = nI 1 from rfl, nI_eq (by omega) (by decide)] at c15
    exact ⟨hF1, fun _ => ⟨rfl, hR1, k4 c15, k3⟩, fun z => absurd c15 z⟩
  · refine kx_aload_n (pc := 18) (kx_dd d_Re_readWord 8 rfl) rfl rfl ?_
    refine kx_iconst (pc := 19) (v := 1) (kx_dd d_Re_readWord 9 rfl) rfl ?_
    refine kx_invV (pc := 20) (a := 3) (as := [_]) (kx_dd d_Re_readWord 10 rfl) ⟨lk_Re_63, wi_Re_refuse, we_Re_refuse⟩ w_Re_refuse (hs.k 3 rfl) rfl rfl rfl rfl (Nat.le_of_ble_eq_true rfl) (x_Re_refuse (d := d + 2) hs (nI 1)) (Nat.le_refl _) ⟨Nat.le_refl _, Nat.le_refl _⟩ (fun v h' hq => ?_)
    revert h'
    intro h9 hq
    obtain ⟨rfl, rfl⟩ := hq
    refine kx_if_eq (pc := 23) (tgt := 30) (kx_dd d_Re_readWord 11 rfl) rfl (fun c23 => ?_) (fun c23 => ?_)
    · refine kx_iconst (pc := 30) (v := 0) (kx_dd d_Re_readWord 14 rfl) rfl ?_
      refine kx_zret (pc := 31) rfl rfl (kx_dd d_Re_readWord 15 rfl) (Nat.le_refl _) (Nat.le_refl _) ?_
      rw [k2, show (1 : Int32) = nI 1 from rfl, nI_eq (by omega) (by decide)] at c15
      exact ⟨RD.fault hF1, fun z => absurd z c15, fun _ => ⟨rfl, FaQ.of (k := 1) k3⟩⟩
    · exact absurd rfl c23
theorem x_Re_readStop {l : Launch} {g : kx_G} {d : Nat} {h : kx_Mem} (a : Nat) (b : Nat → Int32) (n i : Nat) (r : RU) (hR : RD a b n i r h) : kx_Sp l g m_Re_readStop [.ref 3] h (d + 3) 0 0 (fun v h' => kx_Fd a h h' ∧ (tK b n i = 3 → v = some (.int 1) ∧ RD a b n (tE b n i) r h') ∧ (tK b n i ≠ 3 → v = some (.int 0) ∧ FaQ (1, tP b n i) h')) := by
  have hs := hR.1
  have hd := hR.2.2.2.2.1
  have ha := hR.2.2.2.2.2.1
  have hg := ha.g
  have hr := IsRu.of hs ha
  have hin := hR.2.2.1
  have ho := hR.2.2.2.2.2.2.1
  have oa := hr.2.2.2.2.2.2.2.2.2.2.2.2.2.2.2.2.2
  have o16 := ho.1
  refine kx_enter_e (lv := [_]) (by decide +kernel) (Nat.le_of_ble_eq_true rfl) rfl ?_
  refine kx_aload_n (pc := 0) (kx_dd d_Re_readStop 0 rfl) rfl rfl ?_
  refine kx_getR (pc := 1) (b := 1) fl_Re_22 (hs.k 3 rfl) rfl (hs.r 10 rfl) (kx_dd d_Re_readStop 1 rfl) ?_
  refine kx_invV (pc := 4) (a := 1) (as := []) (kx_dd d_Re_readStop 2 rfl) ⟨lk_Re_40, wi_Ta_readToken, we_Ta_readToken⟩ w_Ta_readToken (hs.k 1 rfl) rfl rfl rfl rfl (Nat.le_of_ble_eq_true rfl) (x_Ta_readToken (d := d) hR.1 b n i hR.2.1 hR.2.2.1 hR.2.2.2.1) (Nat.le_refl _) ⟨Nat.le_refl _, Nat.le_refl _⟩ (fun v h' hq => ?_)
  revert h'
  intro h1 hq
  obtain ⟨rfl, hto, hft⟩ := hq
  have hR1 := hR.tok hto hft
  have hF1 : kx_Fd a h h1 := hft.d
  obtain ⟨k1, k2, k3, k4, k5⟩ := id hto
  have hki := tK_le (b := b) (n := n) (i := i)
  have hs := hR1.1
  have hd := hR1.2.2.2.2.1
  have hr := IsRu.of hs hR1.2.2.2.2.2.1
  refine kx_aload_n (pc := 7) (kx_dd d_Re_readStop 3 rfl) rfl rfl ?_
  refine kx_getR (pc := 8) (b := 1) fl_Re_22 (hs.k 3 rfl) rfl (hs.r 10 rfl) (kx_dd d_Re_readStop 4 rfl) ?_
  refine kx_getI (pc := 11) fl_Re_43 (hs.k 1 rfl) rfl (kx_dd d_Re_readStop 5 rfl) ?_
  refine kx_iconst (pc := 14) (v := 3) (kx_dd d_Re_readStop 6 rfl) rfl ?_
  refine kx_icmp_eq (pc := 15) (tgt := 26) (kx_dd d_Re_readStop 7 rfl) rfl (fun c15 => ?_) (fun c15 => ?_)
  · refine kx_iconst (pc := 26) (v := 1) (kx_dd d_Re_readStop 12 rfl) rfl ?_
    refine kx_goto (pc := 27) (tgt := 31) (kx_dd d_Re_readStop 13 rfl) rfl ?_
    refine kx_zret (pc := 31) rfl rfl (kx_dd d_Re_readStop 15 rfl) (Nat.le_refl _) (Nat.le_refl _) ?_
    rw [k2, show (3 : Int32) = nI 3 from rfl, nI_eq (by omega) (by decide)] at c15
    exact ⟨hF1, fun _ => ⟨rfl, hR1⟩, fun z => absurd c15 z⟩
  · refine kx_aload_n (pc := 18) (kx_dd d_Re_readStop 8 rfl) rfl rfl ?_
    refine kx_iconst (pc := 19) (v := 1) (kx_dd d_Re_readStop 9 rfl) rfl ?_
    refine kx_invV (pc := 20) (a := 3) (as := [_]) (kx_dd d_Re_readStop 10 rfl) ⟨lk_Re_63, wi_Re_refuse, we_Re_refuse⟩ w_Re_refuse (hs.k 3 rfl) rfl rfl rfl rfl (Nat.le_of_ble_eq_true rfl) (x_Re_refuse (d := d + 2) hs (nI 1)) (Nat.le_refl _) ⟨Nat.le_refl _, Nat.le_refl _⟩ (fun v h' hq => ?_)
    revert h'
    intro h9 hq
    obtain ⟨rfl, rfl⟩ := hq
    refine kx_if_eq (pc := 23) (tgt := 30) (kx_dd d_Re_readStop 11 rfl) rfl (fun c23 => ?_) (fun c23 => ?_)
    · refine kx_iconst (pc := 30) (v := 0) (kx_dd d_Re_readStop 14 rfl) rfl ?_
      refine kx_zret (pc := 31) rfl rfl (kx_dd d_Re_readStop 15 rfl) (Nat.le_refl _) (Nat.le_refl _) ?_
      rw [k2, show (3 : Int32) = nI 3 from rfl, nI_eq (by omega) (by decide)] at c15
      exact ⟨RD.fault hF1, fun z => absurd z c15, fun _ => ⟨rfl, FaQ.of (k := 1) k3⟩⟩
    · exact absurd rfl c23
theorem nI_m2 {k : Nat} (h : k < 2 ^ 31) : ¬ nI k = -1 := by
  intro z
  exact absurd (show nI k < 0 by rw [z]; decide) (nI_pos h)
theorem x_Re_kind2 {h : kx_Mem} (a : Nat) (b : Nat → Int32) (n i : Nat) (r : RU) (hR : RD a b n i r h) (h1 : kx_Mem) (hR1 : RD a b n (tE b n i) r h1) (hF1 : kx_Fd a h h1) (c15 : tK b n i = 1) (k3 : h1.1 1 4 = nI (tP b n i)) (x : Int32) (h2 : kx_Mem) (hq : (some (Value.int x) = some (.int (oI (kiF r (tW b n i)))) ∧ h2 = h1 ∧ (kiF r (tW b n i) = none → ruK r = 16)) ∨ (kiF r (tW b n i) = none ∧ ruK r < 16 ∧ some (Value.int x) = some (.int (nI (ruK r))) ∧ h2 = kx_setI (kx_setI (kx_setL h1 (a + 3) (ruK r) (lN (tW b n i))) (a + 4) (ruK r) 0) a 2 (nI (ruK r + 1)))) : (x = -1 → kdF b n i r = .inl (4, tP b n i) ∧ h2 = h1) ∧ (x ≠ -1 → ∃ q, kdF b n i r = .inr q ∧ x = nI q.1 ∧ RD a b n q.2.2 q.2.1 h2 ∧ q.1 < ruK q.2.1 ∧ kx_Fd a h1 h2) := by
  have ho := hR.2.2.2.2.2.2.1
  have o16 := ho.1
  have hg := hR.2.2.2.2.2.1.g
  have hw9 := tW_lt hR.2.2.1 c15
  rcases hq with ⟨e1, rfl, e3⟩ | ⟨e1, e2, e3, rfl⟩
  · have ex : x = oI (kiF r (tW b n i)) := by injection e1 with e1; injection e1
    cases hk : kiF r (tW b n i) with
    | none =>
      rw [hk] at ex
      refine ⟨fun _ => ⟨?_, rfl⟩, fun z => absurd ex z⟩
      unfold kdF
      rw [if_pos c15, hk]
      exact if_pos (e3 hk)
    | some k =>
      rw [hk] at ex
      have hlt := (fnd_lt hk).1
      have ex2 : x = nI k := ex
      refine ⟨fun z => ?_, fun _ => ⟨(k, r, tE b n i), ?_, ex, hR1, hlt, kx_Fg.rf⟩⟩
      · rw [ex2] at z
        exact absurd z (nI_m2 (by omega))
      · unfold kdF
        rw [if_pos c15, hk]
  · have ex : x = nI (ruK r) := by injection e3 with e3; injection e3
    refine ⟨fun z => ?_, fun _ => ⟨(ruK r, ruKin r (tW b n i), tE b n i), ?_, ex, ?_⟩⟩
    · rw [ex] at z
      exact absurd z (nI_m2 (by omega))
    · unfold kdF
      rw [if_pos c15, e1]
      exact if_neg (by omega)
    · obtain ⟨p1, p2⟩ := hR1.put (r' := ruKin r (tW b n i)) (((kx_Fg.setL ⟨by omega, by omega⟩).tr (kx_Fg.setI ⟨by omega, by omega⟩)).tr (kx_Fg.setI ⟨by omega, by omega⟩)) (ho.kin hw9.2 e2) hR1.2.2.2.2.2.2.2.1.kin
      exact ⟨p1, by show ruK r < ruK r + 1; omega, p2⟩
theorem x_Re_readKind {l : Launch} {g : kx_G} {d : Nat} {h : kx_Mem} (a : Nat) (b : Nat → Int32) (n i : Nat) (r : RU) (hR : RD a b n i r h) : kx_Sp l g m_Re_readKind [.ref 3] h (d + 4) 0 0 (fun v h' => PoK a b n h v h' (kdF b n i r)) := by
  have hs := hR.1
  have hd := hR.2.2.2.2.1
  have ha := hR.2.2.2.2.2.1
  have hg := ha.g
  have hr := IsRu.of hs ha
  have hin := hR.2.2.1
  have ho := hR.2.2.2.2.2.2.1
  have oa := hr.2.2.2.2.2.2.2.2.2.2.2.2.2.2.2.2.2
  have o16 := ho.1
  refine kx_enter_e (lv := [_, _]) (by decide +kernel) (Nat.le_of_ble_eq_true rfl) rfl ?_
  refine kx_aload_n (pc := 0) (kx_dd d_Re_readKind 0 rfl) rfl rfl ?_
  refine kx_getR (pc := 1) (b := 1) fl_Re_22 (hs.k 3 rfl) rfl (hs.r 10 rfl) (kx_dd d_Re_readKind 1 rfl) ?_
  refine kx_invV (pc := 4) (a := 1) (as := []) (kx_dd d_Re_readKind 2 rfl) ⟨lk_Re_40, wi_Ta_readToken, we_Ta_readToken⟩ w_Ta_readToken (hs.k 1 rfl) rfl rfl rfl rfl (Nat.le_of_ble_eq_true rfl) (x_Ta_readToken (d := d + 1) hR.1 b n i hR.2.1 hR.2.2.1 hR.2.2.2.1) (Nat.le_refl _) ⟨Nat.le_refl _, Nat.le_refl _⟩ (fun v h' hq => ?_)
  revert h'
  intro h1 hq
  obtain ⟨rfl, hto, hft⟩ := hq
  have hR1 := hR.tok hto hft
  have hF1 : kx_Fd a h h1 := hft.d
  obtain ⟨k1, k2, k3, k4, k5⟩ := id hto
  have hki := tK_le (b := b) (n := n) (i := i)
  have hs := hR1.1
  have hd := hR1.2.2.2.2.1
  have hr := IsRu.of hs hR1.2.2.2.2.2.1
  refine kx_aload_n (pc := 7) (kx_dd d_Re_readKind 3 rfl) rfl rfl ?_
  refine kx_getR (pc := 8) (b := 1) fl_Re_22 (hs.k 3 rfl) rfl (hs.r 10 rfl) (kx_dd d_Re_readKind 4 rfl) ?_
  refine kx_getI (pc := 11) fl_Re_43 (hs.k 1 rfl) rfl (kx_dd d_Re_readKind 5 rfl) ?_
  refine kx_iconst (pc := 14) (v := 1) (kx_dd d_Re_readKind 6 rfl) rfl ?_
  refine kx_icmp_eq (pc := 15) (tgt := 26) (kx_dd d_Re_readKind 7 rfl) rfl (fun c15 => ?_) (fun c15 => ?_)
  · refine kx_aload_n (pc := 26) (kx_dd d_Re_readKind 14 rfl) rfl rfl ?_
    refine kx_getR (pc := 27) (b := a) fl_Re_12 (hs.k 3 rfl) rfl hd (kx_dd d_Re_readKind 15 rfl) ?_
    refine kx_aload_n (pc := 30) (kx_dd d_Re_readKind 16 rfl) rfl rfl ?_
    refine kx_getR (pc := 31) (b := 1) fl_Re_22 (hs.k 3 rfl) rfl (hs.r 10 rfl) (kx_dd d_Re_readKind 17 rfl) ?_
    rw [k2, show (1 : Int32) = nI 1 from rfl, nI_eq (by omega) (by decide)] at c15
    refine kx_getL (pc := 34) fl_Re_130 (hs.k 1 rfl) rfl (kx_dd d_Re_readKind 18 rfl) ?_
    rw [k4 c15]
    refine kx_invV (pc := 37) (a := a) (as := [_]) (kx_dd d_Re_readKind 19 rfl) ⟨lk_Re_138, wi_Ru_kindFor, we_Ru_kindFor⟩ w_Ru_kindFor (congrArg Prod.fst hr.1) rfl rfl rfl rfl (Nat.le_of_ble_eq_true rfl) (x_Ru_kindFor (d := d + 2) a hr r ho hR1.2.2.2.2.2.2.2.1 (tW b n i) (tW_lt hin c15).2) (Nat.le_refl _) ⟨Nat.le_refl _, Nat.le_refl _⟩ (fun v h' hq => ?_)
    revert h'
    intro h2 hq
    obtain ⟨x, rfl⟩ : ∃ x : Int32, v = some (.int x) := by rcases hq with z | z; exact ⟨_, z.1⟩; exact ⟨_, z.2.2.1⟩
    have hkk := x_Re_kind2 a b n i r hR h1 hR1 hF1 c15 k3 x h2 hq
    have hs : SC h2 := by rcases hq with z | z; rw [z.2.1]; exact hs; rw [z.2.2.2]; exact hs
    refine kx_istore_ne (pc := 40) (lv' := [_, _]) (kx_dd d_Re_readKind 20 rfl) rfl (Nat.le_of_ble_eq_true rfl) rfl ?_
    refine kx_iload_n (pc := 41) (kx_dd d_Re_readKind 21 rfl) rfl rfl ?_
    refine kx_iconst (pc := 42) (v := -1) (kx_dd d_Re_readKind 22 rfl) rfl ?_
    refine kx_icmp_ne (pc := 43) (tgt := 52) (kx_dd d_Re_readKind 23 rfl) rfl (fun c43 => ?_) (fun c43 => ?_)
    · refine kx_iload_n (pc := 52) (kx_dd d_Re_readKind 28 rfl) rfl rfl ?_
      refine kx_iret (pc := 53) rfl (kx_dd d_Re_readKind 29 rfl) (Nat.le_refl _) (Nat.le_refl _) ?_
      obtain ⟨q, e8, e7, e6, e5, e4⟩ := hkk.2 c43
      rw [e8]
      exact ⟨hF1.tr e4, by rw [e7], e6, e5⟩
    · refine kx_aload_n (pc := 46) (kx_dd d_Re_readKind 24 rfl) rfl rfl ?_
      refine kx_iconst (pc := 47) (v := 4) (kx_dd d_Re_readKind 25 rfl) rfl ?_
      refine kx_invV (pc := 48) (a := 3) (as := [_]) (kx_dd d_Re_readKind 26 rfl) ⟨lk_Re_63, wi_Re_refuse, we_Re_refuse⟩ w_Re_refuse (hs.k 3 rfl) rfl rfl rfl rfl (Nat.le_of_ble_eq_true rfl) (x_Re_refuse (d := d + 3) hs (nI 4)) (Nat.le_refl _) ⟨Nat.le_refl _, Nat.le_refl _⟩ (fun v h' hq => ?_)
      revert h'
      intro h9 hq
      obtain ⟨rfl, rfl⟩ := hq
      refine kx_pop (pc := 51) (kx_dd d_Re_readKind 27 rfl) rfl ?_
      refine kx_iload_n (pc := 52) (kx_dd d_Re_readKind 28 rfl) rfl rfl ?_
      refine kx_iret (pc := 53) rfl (kx_dd d_Re_readKind 29 rfl) (Nat.le_refl _) (Nat.le_refl _) ?_
      obtain ⟨e8, rfl⟩ := hkk.1 c43
      rw [e8]
      exact ⟨RD.fault hF1, by rw [c43], FaQ.of (k := 4) k3⟩
  · refine kx_aload_n (pc := 18) (kx_dd d_Re_readKind 8 rfl) rfl rfl ?_
    refine kx_iconst (pc := 19) (v := 1) (kx_dd d_Re_readKind 9 rfl) rfl ?_
    refine kx_invV (pc := 20) (a := 3) (as := [_]) (kx_dd d_Re_readKind 10 rfl) ⟨lk_Re_63, wi_Re_refuse, we_Re_refuse⟩ w_Re_refuse (hs.k 3 rfl) rfl rfl rfl rfl (Nat.le_of_ble_eq_true rfl) (x_Re_refuse (d := d + 3) hs (nI 1)) (Nat.le_refl _) ⟨Nat.le_refl _, Nat.le_refl _⟩ (fun v h' hq => ?_)
    revert h'
    intro h9 hq
    obtain ⟨rfl, rfl⟩ := hq
    refine kx_pop (pc := 23) (kx_dd d_Re_readKind 11 rfl) rfl ?_
    refine kx_iconst (pc := 24) (v := -1) (kx_dd d_Re_readKind 12 rfl) rfl ?_
    refine kx_iret (pc := 25) rfl (kx_dd d_Re_readKind 13 rfl) (Nat.le_refl _) (Nat.le_refl _) ?_
    rw [k2, show (1 : Int32) = nI 1 from rfl, nI_eq (by omega) (by decide)] at c15
    have e9 : kdF b n i r = .inl (1, tP b n i) := if_neg c15
    rw [e9]
    exact ⟨RD.fault hF1, rfl, FaQ.of (k := 1) k3⟩
