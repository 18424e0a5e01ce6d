/-! the reference: copy, rules -/
theorem y_cp2 {l : Launch} {g : kx_G} {d : Nat} {h0 : kx_Mem} (R len : Nat) (kR : h0.2.2.2.1 R = (50, len)) (hR : R < 1000000) (hl : len < 2 ^ 31) (v : Nat) (hv : v < 4) (m : Nat) (hm1 : m * 5 ≤ len) : ∀ f k, k + f = m → ∀ h, kx_Fc (fun a j => a = R ∧ m * v ≤ j ∧ j < m * v + m) h0 h → (∀ j, j < k → h.1 R (m * v + j) = h0.1 R (m * 4 + j)) → kx_X (l, g, m_Mo_copy, d, 0, 0, (fun z h' => z = none ∧ kx_Fc (fun a j => a = R ∧ m * v ≤ j ∧ j < m * v + m) h0 h' ∧ ∀ k, k < m → h'.1 R (m * v + k) = h0.1 R (m * 4 + k))) 0 0 2 [some (.ref R), some (.int (nI v)), some (.int (nI m)), some (.int (nI k))] [] h := by
  have hmv : m * v + m ≤ m * 4 := by
    have := Nat.mul_le_mul_left m (show v + 1 ≤ 4 by omega)
    rw [Nat.mul_add] at this
    omega
  intro f
  induction f with
  | zero =>
    intro k hk h hf hc
    have hk0 : k = m := by omega
    subst hk0
    have kR9 : h.2.2.2.1 R = (50, len) := by rw [hf.1]; exact kR
    refine kx_iload_n (pc := 2) (kx_dd d_Mo_copy 2 rfl) rfl rfl ?_
    refine kx_iload_n (pc := 3) (kx_dd d_Mo_copy 3 rfl) rfl rfl ?_
    refine kx_icmp_ge (pc := 4) (tgt := 27) (kx_dd d_Mo_copy 4 rfl) rfl (fun c4 => ?_) (fun c4 => ?_)
    · refine kx_vret (pc := 27) rfl (kx_dd d_Mo_copy 21 rfl) (Nat.le_refl _) (Nat.le_refl _) ?_
      exact ⟨rfl, hf, hc⟩
    · exact absurd (Int32.le_refl _) c4
  | succ f ih =>
    intro k hk h hf hc
    have kR9 : h.2.2.2.1 R = (50, len) := by rw [hf.1]; exact kR
    refine kx_iload_n (pc := 2) (kx_dd d_Mo_copy 2 rfl) rfl rfl ?_
    refine kx_iload_n (pc := 3) (kx_dd d_Mo_copy 3 rfl) rfl rfl ?_
    refine kx_icmp_ge (pc := 4) (tgt := 27) (kx_dd d_Mo_copy 4 rfl) rfl (fun c4 => ?_) (fun c4 => ?_)
    · exact absurd c4 (nI_ge (by omega) (by omega))
    · refine kx_aload_n (pc := 7) (kx_dd d_Mo_copy 5 rfl) rfl rfl ?_
      refine kx_iload_n (pc := 8) (kx_dd d_Mo_copy 6 rfl) rfl rfl ?_
      refine kx_iload_n (pc := 9) (kx_dd d_Mo_copy 7 rfl) rfl rfl ?_
      refine kx_imul (pc := 10) (kx_dd d_Mo_copy 8 rfl) ?_
      refine kx_iload_n (pc := 11) (kx_dd d_Mo_copy 9 rfl) rfl rfl ?_
      refine kx_iadd (pc := 12) (kx_dd d_Mo_copy 10 rfl) ?_
      refine kx_aload_n (pc := 13) (kx_dd d_Mo_copy 11 rfl) rfl rfl ?_
      refine kx_iload_n (pc := 14) (kx_dd d_Mo_copy 12 rfl) rfl rfl ?_
      refine kx_iconst (pc := 15) (v := 4) (kx_dd d_Mo_copy 13 rfl) rfl ?_
      refine kx_imul (pc := 16) (kx_dd d_Mo_copy 14 rfl) ?_
      refine kx_iload_n (pc := 17) (kx_dd d_Mo_copy 15 rfl) rfl rfl ?_
      refine kx_iadd (pc := 18) (kx_dd d_Mo_copy 16 rfl) ?_
      refine kx_ialdn (pc := 19) (m * 4 + k) kR9 (nI_ix m 4 k) (by omega) hl (kx_dd d_Mo_copy 17 rfl) ?_
      refine kx_iastn (pc := 20) (m * v + k) kR9 hR (nI_ix m v k) (by omega) hl (kx_dd d_Mo_copy 18 rfl) ?_
      refine kx_iinc_e (pc := 21) (v := nI (k + 1)) (lv' := [_, _, _, _]) (kx_dd d_Mo_copy 19 rfl) rfl (Nat.le_of_ble_eq_true rfl) (nI_1 k) rfl ?_
      refine kx_goto (pc := 24) (tgt := 2) (kx_dd d_Mo_copy 20 rfl) rfl ?_
      refine ih (k + 1) (by omega) _ (hf.tr (kx_Fc.set ⟨rfl, by omega, by omega⟩)) (fun j hj => ?_)
      by_cases e : j = k
      · rw [e, setI_at]; exact hf.2 R _ (by omega)
      · rw [setI_ne (Or.inr (by omega))]; exact hc j (by omega)
theorem y_copy {l : Launch} {g : kx_G} {d : Nat} {h0 : kx_Mem} (R len : Nat) (kR : h0.2.2.2.1 R = (50, len)) (hR : R < 1000000) (hl : len < 2 ^ 31) (v : Nat) (hv : v < 4) (m : Nat) (hm1 : m * 5 ≤ len) : kx_Sp l g m_Mo_copy [.ref R, .int (nI v), .int (nI m)] h0 d 0 0 (fun z h' => z = none ∧ kx_Fc (fun a j => a = R ∧ m * v ≤ j ∧ j < m * v + m) h0 h' ∧ ∀ k, k < m → h'.1 R (m * v + k) = h0.1 R (m * 4 + k)) := by
  refine kx_enter_e (lv := [_, _, _, _]) (by decide +kernel) (Nat.le_of_ble_eq_true rfl) rfl ?_
  refine kx_iconst (pc := 0) (v := 0) (kx_dd d_Mo_copy 0 rfl) rfl ?_
  refine kx_istore_ne (pc := 1) (lv' := [_, _, _, _]) (kx_dd d_Mo_copy 1 rfl) rfl (Nat.le_of_ble_eq_true rfl) rfl ?_
  exact y_cp2 R len kR hR hl v hv m hm1 m 0 (by omega) h0 kx_Fc.rf (fun j hj => absurd hj (Nat.not_lt_zero j))
def rwm (a : Nat) : Nat := ([11, 4, 1, 16, 16, 1, 10, 10, 1, 10, 10, 1, 10, 10, 10] : List Nat).getD (a - 89) 0
/-- the draft copied, c rows so far -/
def cpI (h0 h : kx_Mem) (v c : Nat) : Prop := kx_Fc (fun a j => 89 ≤ a ∧ a < 89 + c ∧ rwm a * v ≤ j ∧ j < rwm a * v + rwm a) h0 h ∧ ∀ a, 89 ≤ a → a < 89 + c → ∀ k, k < rwm a → h.1 a (rwm a * v + k) = h0.1 a (rwm a * 4 + k)
theorem cpI.z {h : kx_Mem} {v : Nat} : cpI h h v 0 := ⟨kx_Fc.rf, fun a h1 h2 => by omega⟩
theorem cpI.step {h0 h h' : kx_Mem} {v c m R : Nat} (hi : cpI h0 h v c) (hf : kx_Fc (fun a j => a = R ∧ m * v ≤ j ∧ j < m * v + m) h h') (hk : ∀ k, k < m → h'.1 R (m * v + k) = h.1 R (m * 4 + k)) (hR : R = 89 + c) (hm : m = rwm R) : cpI h0 h' v (c + 1) := by
  subst hR
  refine ⟨(hi.1.mono (fun a j q => ⟨q.1, by omega, q.2.2⟩)).tr (hf.mono (fun a j q => ⟨by omega, by omega, by rw [q.1, ← hm]; exact q.2.1, by rw [q.1, ← hm]; exact q.2.2⟩)), fun a h1 h2 k hk2 => ?_⟩
  by_cases e : a = 89 + c
  · subst e
    rw [← hm] at hk2 ⊢
    rw [hk k hk2]
    exact hi.1.2 _ _ (by omega)
  · rw [hf.2 a _ (by omega)]
    exact hi.2 a h1 (by omega) k hk2
theorem cpI.get {h0 h : kx_Mem} {v : Nat} (hi : cpI h0 h v 15) (a m : Nat) (h1 : 89 ≤ a ∧ a ≤ 103) (hm : rwm a = m) : ∀ k, k < m → h.1 a (m * v + k) = h0.1 a (m * 4 + k) := by
  subst hm
  exact hi.2 a h1.1 (by omega)
theorem cpI.off {h0 h : kx_Mem} {v : Nat} (hi : cpI h0 h v 15) (a m : Nat) (hm : rwm a = m) : ∀ j, (j < m * v ∨ m * v + m ≤ j) → h.1 a j = h0.1 a j := by
  subst hm
  exact fun j hj => hi.1.2 a j (by omega)
theorem RUm.copied {r : RU} {n v : Nat} {T : Nat → Nat} {h0 h : kx_Mem} (hp : RUm r 4 n T h0) (ho : RUok r) (hi : cpI h0 h v 15) : RUm r v n T h := by
  obtain ⟨h1, h2, h3, h4, h5, h6, h7, h8, h9, h10⟩ := hp
  obtain ⟨o1, o2, o3, o4, o5, o6, o7, o8⟩ := ho
  have one : ∀ a, 89 ≤ a ∧ a ≤ 103 → rwm a = 1 → h.1 a v = h0.1 a 4 := fun a q1 q2 => by
    have := hi.get a 1 q1 q2 0 (by omega)
    rw [show 1 * v + 0 = v by omega] at this
    exact this
  refine ⟨fun k hk => (hi.get 89 11 (by decide) rfl k hk).trans (h1 k hk), fun k hk => (hi.get 90 4 (by decide) rfl k hk).trans (h2 k hk), (one 91 (by decide) rfl).trans h3, fun k hk => ?_, (one 94 (by decide) rfl).trans h5, fun k hk => ?_, (one 97 (by decide) rfl).trans h7, fun k y hy => ?_, (one 100 (by decide) rfl).trans h9, fun k y hy => ?_⟩
  · rw [hi.get 92 16 (by decide) rfl k (by omega), hi.get 93 16 (by decide) rfl k (by omega)]; exact h4 k hk
  · rw [hi.get 95 10 (by decide) rfl k (by omega), hi.get 96 10 (by decide) rfl k (by omega)]; exact h6 k hk
  · have := (List.getElem?_eq_some_iff.mp hy).1
    rw [hi.get 98 10 (by decide) rfl k (by omega), hi.get 99 10 (by decide) rfl k (by omega)]; exact h8 k y hy
  · have := (List.getElem?_eq_some_iff.mp hy).1
    rw [hi.get 101 10 (by decide) rfl k (by omega), hi.get 102 10 (by decide) rfl k (by omega), hi.get 103 10 (by decide) rfl k (by omega)]; exact h10 k y hy
theorem RUm.beside {r : RU} {n v u : Nat} {T : Nat → Nat} {h0 h : kx_Mem} (hp : RUm r u n T h0) (ho : RUok r) (hi : cpI h0 h v 15) (hu : u ≠ v) : RUm r u n T h := by
  obtain ⟨h1, h2, h3, h4, h5, h6, h7, h8, h9, h10⟩ := hp
  obtain ⟨o1, o2, o3, o4, o5, o6, o7, o8⟩ := ho
  refine ⟨fun k hk => by rw [hi.off 89 11 rfl _ (by omega)]; exact h1 k hk, fun k hk => by rw [hi.off 90 4 rfl _ (by omega)]; exact h2 k hk, by rw [hi.off 91 1 rfl _ (by omega)]; exact h3, fun k hk => ?_, by rw [hi.off 94 1 rfl _ (by omega)]; exact h5, fun k hk => ?_, by rw [hi.off 97 1 rfl _ (by omega)]; exact h7, fun k y hy => ?_, by rw [hi.off 100 1 rfl _ (by omega)]; exact h9, fun k y hy => ?_⟩
  · rw [hi.off 92 16 rfl _ (by omega), hi.off 93 16 rfl _ (by omega)]; exact h4 k hk
  · rw [hi.off 95 10 rfl _ (by omega), hi.off 96 10 rfl _ (by omega)]; exact h6 k hk
  · have := (List.getElem?_eq_some_iff.mp hy).1
    rw [hi.off 98 10 rfl _ (by omega), hi.off 99 10 rfl _ (by omega)]; exact h8 k y hy
  · have := (List.getElem?_eq_some_iff.mp hy).1
    rw [hi.off 101 10 rfl _ (by omega), hi.off 102 10 rfl _ (by omega), hi.off 103 10 rfl _ (by omega)]; exact h10 k y hy
theorem RUm.fa {r : RU} {n u : Nat} {T : Nat → Nat} {h0 h : kx_Mem} (hp : RUm r u n T h0) (ho : RUok r) (hu : u < 4) (hf : kx_Fn FrA h0 h) (hN : 154 ≤ h0.2.2.2.2) : RUm r u n T h := by
  obtain ⟨h1, h2, h3, h4, h5, h6, h7, h8, h9, h10⟩ := hp
  obtain ⟨o1, o2, o3, o4, o5, o6, o7, o8⟩ := ho
  have e : ∀ a j, a < 154 → ¬ FrA a j → h.1 a j = h0.1 a j := fun a j q1 q2 => (hf.2 a (by omega)).1 j q2
  unfold FrA FrD at e
  refine ⟨fun k hk => by rw [e _ _ (by decide) (by omega)]; exact h1 k hk, fun k hk => by rw [e _ _ (by decide) (by omega)]; exact h2 k hk, by rw [e _ _ (by decide) (by omega)]; exact h3, fun k hk => ?_, by rw [e _ _ (by decide) (by omega)]; exact h5, fun k hk => ?_, by rw [e _ _ (by decide) (by omega)]; exact h7, fun k y hy => ?_, by rw [e _ _ (by decide) (by omega)]; exact h9, fun k y hy => ?_⟩
  · rw [e _ _ (by decide) (by omega), e _ _ (by decide) (by omega)]; exact h4 k hk
  · rw [e _ _ (by decide) (by omega), e _ _ (by decide) (by omega)]; exact h6 k hk
  · have := (List.getElem?_eq_some_iff.mp hy).1
    rw [e _ _ (by decide) (by omega), e _ _ (by decide) (by omega)]; exact h8 k y hy
  · have := (List.getElem?_eq_some_iff.mp hy).1
    rw [e _ _ (by decide) (by omega), e _ _ (by decide) (by omega), e _ _ (by decide) (by omega)]; exact h10 k y hy
/-- the reference ahead of a text -/
def RPm (b : Nat → Int32) (n nw : Nat) (T : Nat → Nat) (z : Nat) (V : Nat → RU) (h : kx_Mem) : Prop := SM h ∧ BY b ∧ (h.1 84 5 = nI n ∧ n ≤ 600 ∧ ∀ k, k < n → h.1 88 k = b k) ∧ (WTok nw T ∧ WTm nw T h ∧ wz nw T ≤ z) ∧ (∀ u, u < 4 → RUok (V u) ∧ RUm (V u) u nw T h) ∧ 154 ≤ h.2.2.2.2 ∧ h.2.2.2.2 < 1000000
def FrR (a j : Nat) : Prop := FrA a j ∨ (a = 84 ∧ (j = 5 ∨ j = 6)) ∨ (89 ≤ a ∧ a ≤ 103)
def vrs (q : Int32) : Prop := 0 ≤ q ∧ q ≤ 3
theorem vrs_n {q : Int32} (h : vrs q) : ∃ v, v < 4 ∧ q = nI v := by
  rcases nI_dec q with e | ⟨k, hk, rfl⟩
  · exact absurd h.1 (Int32.not_le.mpr e)
  · refine ⟨k, ?_, rfl⟩
    have h2 := h.2
    rw [show (3 : Int32) = nI 3 from rfl, nI_leI (by omega) (by decide)] at h2
    omega
def PoM (b : Nat → Int32) (n nw : Nat) (T : Nat → Nat) (z : Nat) (V : Nat → RU) (q : Int32) (h : kx_Mem) (v : Option Value) (h' : kx_Mem) : Prop :=
  ∃ nw' T' z', WEx nw T nw' T' ∧ (WTok nw' T' ∧ WTm nw' T' h' ∧ wz nw' T' ≤ z') ∧ 16 * z' ≤ 16 * z + 3 * n + 48 ∧ kx_Fn FrR h h' ∧ h'.2.2.2.2 ≤ h.2.2.2.2 + 1 ∧ h'.1 84 5 = 0 ∧
    ((¬ vrs q ∧ v = some (.int (-2)) ∧ (∀ u, u < 4 → RUm (V u) u nw' T' h') ∧ h'.1 84 11 = h.1 84 11 ∧ h'.1 84 12 = h.1 84 12) ∨
      ∃ v9, v9 < 4 ∧ q = nI v9 ∧ ((∃ f, rdF b n (n + 1) 0 ru0 0 0 = .inl f ∧ v = some (.int (-1)) ∧ FaM f h' ∧ ∀ u, u < 4 → RUm (V u) u nw' T' h') ∨
        ∃ x, rdF b n (n + 1) 0 ru0 0 0 = .inr x ∧ v = some (.int (nI x.2)) ∧ h'.1 84 11 = 0 ∧ h'.1 84 12 = -1 ∧ RUok x.1 ∧ ∀ u, u < 4 → RUm (upF V v9 x.1 u) u nw' T' h'))
theorem y_rules {l : Launch} {g : kx_G} {d : Nat} {h : kx_Mem} (b : Nat → Int32) (n nw : Nat) (T : Nat → Nat) (z : Nat) (V : Nat → RU) (hP : RPm b n nw T z V h) (hzn : 16 * z + 3 * n < 31312) (q : Int32) : kw_Sp l g m_Mo_rules [(24, 33, 36, 245)] [.ref 84, .int q] h (d + 11) 1 11 (fun v h' => PoM b n nw T z V q h v h') := by
  obtain ⟨hm, hby, ⟨e5, hn6, hbb⟩, hwd, hV, hN2⟩ := id hP
  refine kw_enter (lv := [_, _, _, _]) (by decide +kernel) (Nat.le_of_ble_eq_true rfl) rfl ?_
  refine kt_aload_n (pc := 0) (kx_dd d_Mo_rules 0 rfl) rfl rfl ?_
  refine kt_invV (pc := 1) (a := 84) (as := []) (kx_dd d_Mo_rules 1 rfl) ⟨lk_Mo_236, wi_Mo_open, we_Mo_open⟩ w_Mo_open (hm.k 0 rfl) rfl rfl rfl rfl (Nat.le_of_ble_eq_true rfl) (y_open (d := d + 10) hm) (Nat.le_refl _) ⟨Nat.zero_le _, Nat.zero_le _⟩ (fun v h' hq => ?_)
  revert h'
  intro h1 hq
  obtain ⟨rfl, he1⟩ := hq
  have hf1 : kx_Fc (fun a j => a = 84 ∧ (j = 5 ∨ j = 6 ∨ j = 8)) h h1 := by rw [he1]; exact ((kx_Fc.set ⟨rfl, by omega⟩).tr (kx_Fc.set ⟨rfl, by omega⟩)).tr (kx_Fc.set ⟨rfl, by omega⟩)
  have e6 : h1.1 84 6 = nI n := by rw [he1, setI_ne (Or.inr (by decide)), setI_ne (Or.inr (by decide)), setI_at]; exact e5
  have e5b : h1.1 84 5 = 0 := by rw [he1, setI_ne (Or.inr (by decide)), setI_at]
  have e8 : h1.1 84 8 = nI 0 := by rw [he1, setI_at]; rfl
  clear he1
  have hm : SM h1 := hm.fc hf1
  refine kt_iload_n (pc := 4) (kx_dd d_Mo_rules 2 rfl) rfl rfl ?_
  refine kt_invS (pc := 5) (as := [_]) (kx_dd d_Mo_rules 3 rfl) ⟨lk_Mo_239, wt_Mo_isVersion⟩ w_Mo_isVersion rfl rfl (Nat.le_of_ble_eq_true rfl) (y_isVersion (d := d + 9) q) (Nat.le_refl _) ⟨Nat.zero_le _, Nat.zero_le _⟩ (fun v h' hq => ?_)
  obtain ⟨rfl, he⟩ := hq
  rw [he]
  clear he
  refine kt_if_ne (pc := 8) (tgt := 14) (kx_dd d_Mo_rules 4 rfl) rfl (fun c8 => ?_) (fun c8 => ?_)
  · have c8 : vrs q := Classical.not_not.mp (fun x => c8 (bP_0.mpr x))
    refine kt_aload_n (pc := 14) (kx_dd d_Mo_rules 7 rfl) rfl rfl ?_
    refine kt_iconst (pc := 15) (v := 0) (kx_dd d_Mo_rules 8 rfl) rfl ?_
    refine kt_putI (pc := 16) fl_Mo_24 (hm.k 0 rfl) (by decide) rfl rfl (kx_dd d_Mo_rules 9 rfl) ?_
    refine kt_aload_n (pc := 19) (kx_dd d_Mo_rules 10 rfl) rfl rfl ?_
    refine kt_iconst (pc := 20) (v := -1) (kx_dd d_Mo_rules 11 rfl) rfl ?_
    refine kt_putI (pc := 21) fl_Mo_30 (hm.k 0 rfl) (by decide) rfl rfl (kx_dd d_Mo_rules 12 rfl) ?_
    obtain ⟨v9, hv9, rfl⟩ := vrs_n c8
    have hf2 : kx_Fc (fun a j => a = 84 ∧ (j = 11 ∨ j = 12)) h1 (kx_setI (kx_setI h1 84 11 0) 84 12 (-1)) := (kx_Fc.set ⟨rfl, by omega⟩).tr (kx_Fc.set ⟨rfl, by omega⟩)
    have hm : SM (kx_setI (kx_setI h1 84 11 0) 84 12 (-1)) := hm.fc hf2
    have hT2 : TapM b n (kx_setI (kx_setI h1 84 11 0) 84 12 (-1)) := ⟨(hf2.2 84 6 (by omega)).trans e6, hn6, fun k hk => by rw [hf2.2 88 k (by omega), hf1.2 88 k (by omega)]; exact hbb k hk⟩
    refine kt_aload_n (pc := 24) (kx_dd d_Mo_rules 13 rfl) rfl rfl ?_
    refine kt_invV (pc := 25) (a := 84) (as := []) (kx_dd d_Mo_rules 14 rfl) ⟨lk_Mo_77, wi_Mo_scan, we_Mo_scan⟩ w_Mo_scan (hm.k 0 rfl) rfl rfl rfl rfl (Nat.le_of_ble_eq_true rfl) (y_scan (d := d + 9) hm b n 0 hT2 hby (Nat.zero_le _) ((hf2.2 84 8 (by omega)).trans e8)) (Nat.le_refl _) ⟨Nat.zero_le _, Nat.zero_le _⟩ (fun v h' hq => ?_)
    revert h'
    intro h3 hq
    obtain ⟨rfl, hto, hf3⟩ := hq
    have hm : SM h3 := hm.fc hf3
    have hf13 : kx_Fc (fun a j => a = 84 ∧ 5 ≤ j ∧ j ≤ 12) h h3 := ((hf1.mono (fun a j q => ⟨q.1, by omega⟩)).tr (hf2.mono (fun a j q => ⟨q.1, by omega⟩))).tr (hf3.mono (fun a j q => ⟨q.1, by have := q.2; omega⟩))
    have hS : RSt b n nw T z h3 := ⟨hm, ⟨hT2.fc hf3 (by simp [FsM]) (by simp [FsM]), hby⟩, hto, ⟨hwd.1, hwd.2.1.fc hf13 (by omega) (fun j => ⟨by omega, by omega⟩), hwd.2.2⟩, (hf3.2 84 11 (by simp [FsM])).trans (by rw [setI_ne (Or.inr (by decide))]; exact setI_at), (hf3.2 84 12 (by simp [FsM])).trans setI_at⟩
    have hV3 : ∀ u, u < 4 → RUok (V u) ∧ RUm (V u) u nw T h3 := fun u hu => ⟨(hV u hu).1, (hV u hu).2.fm hf13 (fun a j q1 q2 => by omega)⟩
    have hc3 : h3.2.2.2.2 = h.2.2.2.2 := by rw [hf13.1]
    have hN3 : 154 ≤ h3.2.2.2.2 ∧ h3.2.2.2.2 < 1000000 := by rw [hc3]; exact hN2
    have e53 : h3.1 84 5 = 0 := (hf3.2 84 5 (by simp [FsM])).trans ((hf2.2 84 5 (by omega)).trans e5b)
    have hg3 : kx_Fn FrR h h3 := (hf13.mono (fun a j q => by unfold FrR FrA FrD; omega)).n
    refine kt_aload_n (pc := 28) (kx_dd d_Mo_rules 15 rfl) rfl rfl ?_
    refine kt_invT (pc := 29) (a := 84) (as := []) (kx_dd d_Mo_rules 16 rfl) lm_Mo_242 wi_Mo_readAll we_Mo_readAll w_Mo_readAll (hm.k 0 rfl) rfl rfl rfl rfl (Nat.le_of_ble_eq_true rfl) (y_readAll (d := d) b n nw T z hS hN3 hzn) (Nat.le_refl _) ⟨Nat.le_refl _, Nat.le_refl _⟩ (fun v h' hq => ?_) (fun h' hz => Or.inr ⟨24, 33, 36, 245, rfl, by decide, by decide, by decide, cl_Mo_245, ?_, ?_⟩)
    rotate_left
    · obtain ⟨f, y1, z4, y2, ⟨nw4, T4, b1, b2, b3, b4, b5, b6⟩, y4⟩ := hz
      exact (SM_fn hm b6 hN3.1).k 3 rfl
    · obtain ⟨f, y1, z4, y2, ⟨nw4, T4, b1, b2, b3, b4, b5, b6⟩, y4⟩ := hz
      refine kt_astore_ne (pc := 36) (lv' := [_, _, _, _]) (kx_dd d_Mo_rules 19 rfl) rfl (Nat.le_of_ble_eq_true rfl) rfl ?_
      refine kt_iconst (pc := 37) (v := -1) (kx_dd d_Mo_rules 20 rfl) rfl ?_
      refine kt_ofX (kx_iret (pc := 38) rfl (kx_dd d_Mo_rules 21 rfl) (Nat.le_refl _) (Nat.le_refl _) ?_)
      exact ⟨nw4, T4, z4, b4, ⟨b2, b3, b5⟩, y2, hg3.tr (b6.mono (fun a j q => Or.inl q)), by omega, ((b6.2 84 (by omega)).1 5 (by unfold FrA FrD; omega)).trans e53, Or.inr ⟨v9, hv9, rfl, Or.inl ⟨f, y1, rfl, b1, fun u hu => ((hV3 u hu).2.ex b4).fa (hV3 u hu).1 hu b6 hN3.1⟩⟩⟩
    revert h'
    intro h4 hq
    obtain ⟨x9, hX, rfl, i4, nw4, T4, z4, hx4, hR4, hf4, hc4, hz4⟩ := hq
    have hm : SM h4 := hR4.1
    have hI0 := cpI.z (h := h4) (v := v9)
    refine kt_istore_ne (pc := 32) (lv' := [_, _, _, _]) (kx_dd d_Mo_rules 17 rfl) rfl (Nat.le_of_ble_eq_true rfl) rfl ?_
    refine kt_goto (pc := 33) (tgt := 39) (kx_dd d_Mo_rules 18 rfl) rfl ?_
    refine kt_aload_n (pc := 39) (kx_dd d_Mo_rules 22 rfl) rfl rfl ?_
    refine kt_getR (pc := 40) (b := 89) fl_Mo_85 (hm.k 0 rfl) rfl (hm.r 4 rfl) (kx_dd d_Mo_rules 23 rfl) ?_
    refine kt_iload_n (pc := 43) (kx_dd d_Mo_rules 24 rfl) rfl rfl ?_
    refine kt_bipush (pc := 44) (v := 11) (kx_dd d_Mo_rules 25 rfl) rfl ?_
    refine kt_invS (pc := 46) (as := [_, _, _]) (kx_dd d_Mo_rules 26 rfl) ⟨lk_Mo_247, wt_Mo_copy⟩ w_Mo_copy rfl rfl (Nat.le_of_ble_eq_true rfl) (y_copy (d := d + 10) 89 55 (hm.t 5 rfl) (by decide) (by decide) v9 hv9 11 (by decide)) (Nat.le_refl _) ⟨Nat.le_refl _, Nat.le_refl _⟩ (fun v h' hq => ?_)
    revert h'
    intro g0 hq
    obtain ⟨rfl, hf9, hk9⟩ := hq
    have hI1 := hI0.step hf9 hk9 rfl rfl
    have hm : SM g0 := hm.fc hf9
    refine kt_aload_n (pc := 49) (kx_dd d_Mo_rules 27 rfl) rfl rfl ?_
    refine kt_getR (pc := 50) (b := 90) fl_Mo_88 (hm.k 0 rfl) rfl (hm.r 5 rfl) (kx_dd d_Mo_rules 28 rfl) ?_
    refine kt_iload_n (pc := 53) (kx_dd d_Mo_rules 29 rfl) rfl rfl ?_
    refine kt_iconst (pc := 54) (v := 4) (kx_dd d_Mo_rules 30 rfl) rfl ?_
    refine kt_invS (pc := 55) (as := [_, _, _]) (kx_dd d_Mo_rules 31 rfl) ⟨lk_Mo_247, wt_Mo_copy⟩ w_Mo_copy rfl rfl (Nat.le_of_ble_eq_true rfl) (y_copy (d := d + 10) 90 20 (hm.t 6 rfl) (by decide) (by decide) v9 hv9 4 (by decide)) (Nat.le_refl _) ⟨Nat.le_refl _, Nat.le_refl _⟩ (fun v h' hq => ?_)
    revert h'
    intro g1 hq
    obtain ⟨rfl, hf9, hk9⟩ := hq
    have hI2 := hI1.step hf9 hk9 rfl rfl
    have hm : SM g1 := hm.fc hf9
    refine kt_aload_n (pc := 58) (kx_dd d_Mo_rules 32 rfl) rfl rfl ?_
    refine kt_getR (pc := 59) (b := 91) fl_Mo_91 (hm.k 0 rfl) rfl (hm.r 6 rfl) (kx_dd d_Mo_rules 33 rfl) ?_
    refine kt_iload_n (pc := 62) (kx_dd d_Mo_rules 34 rfl) rfl rfl ?_
    refine kt_iconst (pc := 63) (v := 1) (kx_dd d_Mo_rules 35 rfl) rfl ?_
    refine kt_invS (pc := 64) (as := [_, _, _]) (kx_dd d_Mo_rules 36 rfl) ⟨lk_Mo_247, wt_Mo_copy⟩ w_Mo_copy rfl rfl (Nat.le_of_ble_eq_true rfl) (y_copy (d := d + 10) 91 5 (hm.t 7 rfl) (by decide) (by decide) v9 hv9 1 (by decide)) (Nat.le_refl _) ⟨Nat.le_refl _, Nat.le_refl _⟩ (fun v h' hq => ?_)
    revert h'
    intro g2 hq
    obtain ⟨rfl, hf9, hk9⟩ := hq
    have hI3 := hI2.step hf9 hk9 rfl rfl
    have hm : SM g2 := hm.fc hf9
    refine kt_aload_n (pc := 67) (kx_dd d_Mo_rules 37 rfl) rfl rfl ?_
    refine kt_getR (pc := 68) (b := 92) fl_Mo_103 (hm.k 0 rfl) rfl (hm.r 7 rfl) (kx_dd d_Mo_rules 38 rfl) ?_
    refine kt_iload_n (pc := 71) (kx_dd d_Mo_rules 39 rfl) rfl rfl ?_
    refine kt_bipush (pc := 72) (v := 16) (kx_dd d_Mo_rules 40 rfl) rfl ?_
    refine kt_invS (pc := 74) (as := [_, _, _]) (kx_dd d_Mo_rules 41 rfl) ⟨lk_Mo_247, wt_Mo_copy⟩ w_Mo_copy rfl rfl (Nat.le_of_ble_eq_true rfl) (y_copy (d := d + 10) 92 80 (hm.t 8 rfl) (by decide) (by decide) v9 hv9 16 (by decide)) (Nat.le_refl _) ⟨Nat.le_refl _, Nat.le_refl _⟩ (fun v h' hq => ?_)
    revert h'
    intro g3 hq
    obtain ⟨rfl, hf9, hk9⟩ := hq
    have hI4 := hI3.step hf9 hk9 rfl rfl
    have hm : SM g3 := hm.fc hf9
    refine kt_aload_n (pc := 77) (kx_dd d_Mo_rules 42 rfl) rfl rfl ?_
    refine kt_getR (pc := 78) (b := 93) fl_Mo_109 (hm.k 0 rfl) rfl (hm.r 8 rfl) (kx_dd d_Mo_rules 43 rfl) ?_
    refine kt_iload_n (pc := 81) (kx_dd d_Mo_rules 44 rfl) rfl rfl ?_
    refine kt_bipush (pc := 82) (v := 16) (kx_dd d_Mo_rules 45 rfl) rfl ?_
    refine kt_invS (pc := 84) (as := [_, _, _]) (kx_dd d_Mo_rules 46 rfl) ⟨lk_Mo_247, wt_Mo_copy⟩ w_Mo_copy rfl rfl (Nat.le_of_ble_eq_true rfl) (y_copy (d := d + 10) 93 80 (hm.t 9 rfl) (by decide) (by decide) v9 hv9 16 (by decide)) (Nat.le_refl _) ⟨Nat.le_refl _, Nat.le_refl _⟩ (fun v h' hq => ?_)
    revert h'
    intro g4 hq
    obtain ⟨rfl, hf9, hk9⟩ := hq
    have hI5 := hI4.step hf9 hk9 rfl rfl
    have hm : SM g4 := hm.fc hf9
    refine kt_aload_n (pc := 87) (kx_dd d_Mo_rules 47 rfl) rfl rfl ?_
    refine kt_getR (pc := 88) (b := 94) fl_Mo_94 (hm.k 0 rfl) rfl (hm.r 9 rfl) (kx_dd d_Mo_rules 48 rfl) ?_
    refine kt_iload_n (pc := 91) (kx_dd d_Mo_rules 49 rfl) rfl rfl ?_
    refine kt_iconst (pc := 92) (v := 1) (kx_dd d_Mo_rules 50 rfl) rfl ?_
    refine kt_invS (pc := 93) (as := [_, _, _]) (kx_dd d_Mo_rules 51 rfl) ⟨lk_Mo_247, wt_Mo_copy⟩ w_Mo_copy rfl rfl (Nat.le_of_ble_eq_true rfl) (y_copy (d := d + 10) 94 5 (hm.t 10 rfl) (by decide) (by decide) v9 hv9 1 (by decide)) (Nat.le_refl _) ⟨Nat.le_refl _, Nat.le_refl _⟩ (fun v h' hq => ?_)
    revert h'
    intro g5 hq
    obtain ⟨rfl, hf9, hk9⟩ := hq
    have hI6 := hI5.step hf9 hk9 rfl rfl
    have hm : SM g5 := hm.fc hf9
    refine kt_aload_n (pc := 96) (kx_dd d_Mo_rules 52 rfl) rfl rfl ?_
    refine kt_getR (pc := 97) (b := 95) fl_Mo_206 (hm.k 0 rfl) rfl (hm.r 10 rfl) (kx_dd d_Mo_rules 53 rfl) ?_
    refine kt_iload_n (pc := 100) (kx_dd d_Mo_rules 54 rfl) rfl rfl ?_
    refine kt_bipush (pc := 101) (v := 10) (kx_dd d_Mo_rules 55 rfl) rfl ?_
    refine kt_invS (pc := 103) (as := [_, _, _]) (kx_dd d_Mo_rules 56 rfl) ⟨lk_Mo_247, wt_Mo_copy⟩ w_Mo_copy rfl rfl (Nat.le_of_ble_eq_true rfl) (y_copy (d := d + 10) 95 50 (hm.t 11 rfl) (by decide) (by decide) v9 hv9 10 (by decide)) (Nat.le_refl _) ⟨Nat.le_refl _, Nat.le_refl _⟩ (fun v h' hq => ?_)
    revert h'
    intro g6 hq
    obtain ⟨rfl, hf9, hk9⟩ := hq
    have hI7 := hI6.step hf9 hk9 rfl rfl
    have hm : SM g6 := hm.fc hf9
    refine kt_aload_n (pc := 106) (kx_dd d_Mo_rules 57 rfl) rfl rfl ?_
    refine kt_getR (pc := 107) (b := 96) fl_Mo_209 (hm.k 0 rfl) rfl (hm.r 11 rfl) (kx_dd d_Mo_rules 58 rfl) ?_
    refine kt_iload_n (pc := 110) (kx_dd d_Mo_rules 59 rfl) rfl rfl ?_
    refine kt_bipush (pc := 111) (v := 10) (kx_dd d_Mo_rules 60 rfl) rfl ?_
    refine kt_invS (pc := 113) (as := [_, _, _]) (kx_dd d_Mo_rules 61 rfl) ⟨lk_Mo_247, wt_Mo_copy⟩ w_Mo_copy rfl rfl (Nat.le_of_ble_eq_true rfl) (y_copy (d := d + 10) 96 50 (hm.t 12 rfl) (by decide) (by decide) v9 hv9 10 (by decide)) (Nat.le_refl _) ⟨Nat.le_refl _, Nat.le_refl _⟩ (fun v h' hq => ?_)
    revert h'
    intro g7 hq
    obtain ⟨rfl, hf9, hk9⟩ := hq
    have hI8 := hI7.step hf9 hk9 rfl rfl
    have hm : SM g7 := hm.fc hf9
    refine kt_aload_n (pc := 116) (kx_dd d_Mo_rules 62 rfl) rfl rfl ?_
    refine kt_getR (pc := 117) (b := 97) fl_Mo_97 (hm.k 0 rfl) rfl (hm.r 12 rfl) (kx_dd d_Mo_rules 63 rfl) ?_
    refine kt_iload_n (pc := 120) (kx_dd d_Mo_rules 64 rfl) rfl rfl ?_
    refine kt_iconst (pc := 121) (v := 1) (kx_dd d_Mo_rules 65 rfl) rfl ?_
    refine kt_invS (pc := 122) (as := [_, _, _]) (kx_dd d_Mo_rules 66 rfl) ⟨lk_Mo_247, wt_Mo_copy⟩ w_Mo_copy rfl rfl (Nat.le_of_ble_eq_true rfl) (y_copy (d := d + 10) 97 5 (hm.t 13 rfl) (by decide) (by decide) v9 hv9 1 (by decide)) (Nat.le_refl _) ⟨Nat.le_refl _, Nat.le_refl _⟩ (fun v h' hq => ?_)
    revert h'
    intro g8 hq
    obtain ⟨rfl, hf9, hk9⟩ := hq
    have hI9 := hI8.step hf9 hk9 rfl rfl
    have hm : SM g8 := hm.fc hf9
    refine kt_aload_n (pc := 125) (kx_dd d_Mo_rules 67 rfl) rfl rfl ?_
    refine kt_getR (pc := 126) (b := 98) fl_Mo_214 (hm.k 0 rfl) rfl (hm.r 13 rfl) (kx_dd d_Mo_rules 68 rfl) ?_
    refine kt_iload_n (pc := 129) (kx_dd d_Mo_rules 69 rfl) rfl rfl ?_
    refine kt_bipush (pc := 130) (v := 10) (kx_dd d_Mo_rules 70 rfl) rfl ?_
    refine kt_invS (pc := 132) (as := [_, _, _]) (kx_dd d_Mo_rules 71 rfl) ⟨lk_Mo_247, wt_Mo_copy⟩ w_Mo_copy rfl rfl (Nat.le_of_ble_eq_true rfl) (y_copy (d := d + 10) 98 50 (hm.t 14 rfl) (by decide) (by decide) v9 hv9 10 (by decide)) (Nat.le_refl _) ⟨Nat.le_refl _, Nat.le_refl _⟩ (fun v h' hq => ?_)
    revert h'
    intro g9 hq
    obtain ⟨rfl, hf9, hk9⟩ := hq
    have hI10 := hI9.step hf9 hk9 rfl rfl
    have hm : SM g9 := hm.fc hf9
    refine kt_aload_n (pc := 135) (kx_dd d_Mo_rules 72 rfl) rfl rfl ?_
    refine kt_getR (pc := 136) (b := 99) fl_Mo_220 (hm.k 0 rfl) rfl (hm.r 14 rfl) (kx_dd d_Mo_rules 73 rfl) ?_
    refine kt_iload_n (pc := 139) (kx_dd d_Mo_rules 74 rfl) rfl rfl ?_
    refine kt_bipush (pc := 140) (v := 10) (kx_dd d_Mo_rules 75 rfl) rfl ?_
    refine kt_invS (pc := 142) (as := [_, _, _]) (kx_dd d_Mo_rules 76 rfl) ⟨lk_Mo_247, wt_Mo_copy⟩ w_Mo_copy rfl rfl (Nat.le_of_ble_eq_true rfl) (y_copy (d := d + 10) 99 50 (hm.t 15 rfl) (by decide) (by decide) v9 hv9 10 (by decide)) (Nat.le_refl _) ⟨Nat.le_refl _, Nat.le_refl _⟩ (fun v h' hq => ?_)
    revert h'
    intro g10 hq
    obtain ⟨rfl, hf9, hk9⟩ := hq
    have hI11 := hI10.step hf9 hk9 rfl rfl
    have hm : SM g10 := hm.fc hf9
    refine kt_aload_n (pc := 145) (kx_dd d_Mo_rules 77 rfl) rfl rfl ?_
    refine kt_getR (pc := 146) (b := 100) fl_Mo_100 (hm.k 0 rfl) rfl (hm.r 15 rfl) (kx_dd d_Mo_rules 78 rfl) ?_
    refine kt_iload_n (pc := 149) (kx_dd d_Mo_rules 79 rfl) rfl rfl ?_
    refine kt_iconst (pc := 150) (v := 1) (kx_dd d_Mo_rules 80 rfl) rfl ?_
    refine kt_invS (pc := 151) (as := [_, _, _]) (kx_dd d_Mo_rules 81 rfl) ⟨lk_Mo_247, wt_Mo_copy⟩ w_Mo_copy rfl rfl (Nat.le_of_ble_eq_true rfl) (y_copy (d := d + 10) 100 5 (hm.t 16 rfl) (by decide) (by decide) v9 hv9 1 (by decide)) (Nat.le_refl _) ⟨Nat.le_refl _, Nat.le_refl _⟩ (fun v h' hq => ?_)
    revert h'
    intro g11 hq
    obtain ⟨rfl, hf9, hk9⟩ := hq
    have hI12 := hI11.step hf9 hk9 rfl rfl
    have hm : SM g11 := hm.fc hf9
    refine kt_aload_n (pc := 154) (kx_dd d_Mo_rules 82 rfl) rfl rfl ?_
    refine kt_getR (pc := 155) (b := 101) fl_Mo_225 (hm.k 0 rfl) rfl (hm.r 16 rfl) (kx_dd d_Mo_rules 83 rfl) ?_
    refine kt_iload_n (pc := 158) (kx_dd d_Mo_rules 84 rfl) rfl rfl ?_
    refine kt_bipush (pc := 159) (v := 10) (kx_dd d_Mo_rules 85 rfl) rfl ?_
    refine kt_invS (pc := 161) (as := [_, _, _]) (kx_dd d_Mo_rules 86 rfl) ⟨lk_Mo_247, wt_Mo_copy⟩ w_Mo_copy rfl rfl (Nat.le_of_ble_eq_true rfl) (y_copy (d := d + 10) 101 50 (hm.t 17 rfl) (by decide) (by decide) v9 hv9 10 (by decide)) (Nat.le_refl _) ⟨Nat.le_refl _, Nat.le_refl _⟩ (fun v h' hq => ?_)
    revert h'
    intro g12 hq
    obtain ⟨rfl, hf9, hk9⟩ := hq
    have hI13 := hI12.step hf9 hk9 rfl rfl
    have hm : SM g12 := hm.fc hf9
    refine kt_aload_n (pc := 164) (kx_dd d_Mo_rules 87 rfl) rfl rfl ?_
    refine kt_getR (pc := 165) (b := 102) fl_Mo_228 (hm.k 0 rfl) rfl (hm.r 17 rfl) (kx_dd d_Mo_rules 88 rfl) ?_
    refine kt_iload_n (pc := 168) (kx_dd d_Mo_rules 89 rfl) rfl rfl ?_
    refine kt_bipush (pc := 169) (v := 10) (kx_dd d_Mo_rules 90 rfl) rfl ?_
    refine kt_invS (pc := 171) (as := [_, _, _]) (kx_dd d_Mo_rules 91 rfl) ⟨lk_Mo_247, wt_Mo_copy⟩ w_Mo_copy rfl rfl (Nat.le_of_ble_eq_true rfl) (y_copy (d := d + 10) 102 50 (hm.t 18 rfl) (by decide) (by decide) v9 hv9 10 (by decide)) (Nat.le_refl _) ⟨Nat.le_refl _, Nat.le_refl _⟩ (fun v h' hq => ?_)
    revert h'
    intro g13 hq
    obtain ⟨rfl, hf9, hk9⟩ := hq
    have hI14 := hI13.step hf9 hk9 rfl rfl
    have hm : SM g13 := hm.fc hf9
    refine kt_aload_n (pc := 174) (kx_dd d_Mo_rules 92 rfl) rfl rfl ?_
    refine kt_getR (pc := 175) (b := 103) fl_Mo_231 (hm.k 0 rfl) rfl (hm.r 18 rfl) (kx_dd d_Mo_rules 93 rfl) ?_
    refine kt_iload_n (pc := 178) (kx_dd d_Mo_rules 94 rfl) rfl rfl ?_
    refine kt_bipush (pc := 179) (v := 10) (kx_dd d_Mo_rules 95 rfl) rfl ?_
    refine kt_invS (pc := 181) (as := [_, _, _]) (kx_dd d_Mo_rules 96 rfl) ⟨lk_Mo_247, wt_Mo_copy⟩ w_Mo_copy rfl rfl (Nat.le_of_ble_eq_true rfl) (y_copy (d := d + 10) 103 50 (hm.t 19 rfl) (by decide) (by decide) v9 hv9 10 (by decide)) (Nat.le_refl _) ⟨Nat.le_refl _, Nat.le_refl _⟩ (fun v h' hq => ?_)
    revert h'
    intro g14 hq
    obtain ⟨rfl, hf9, hk9⟩ := hq
    have hI15 := hI14.step hf9 hk9 rfl rfl
    have hm : SM g14 := hm.fc hf9
    refine kt_iload_n (pc := 184) (kx_dd d_Mo_rules 97 rfl) rfl rfl ?_
    refine kt_ofX (kx_iret (pc := 185) rfl (kx_dd d_Mo_rules 98 rfl) (Nat.le_refl _) (Nat.le_refl _) ?_)
    have hfc : kx_Fc (fun a j => 89 ≤ a ∧ a ≤ 103) h4 g14 := hI15.1.mono (fun a j q => by omega)
    have hwx := hR4.2.2.2.2.2.2.1
    refine ⟨nw4, T4, z4, hx4, ⟨hwx.1, hwx.2.1.fc hfc (by omega) (fun j => ⟨by omega, by omega⟩), hwx.2.2⟩, by omega, (hg3.tr (hf4.mono (fun a j q => Or.inl q))).tr (hfc.mono (fun a j q => Or.inr (Or.inr q))).n, by rw [hfc.1]; omega, (hfc.2 84 5 (by omega)).trans (((hf4.2 84 (by omega)).1 5 (by unfold FrA FrD; omega)).trans e53), Or.inr ⟨v9, hv9, rfl, Or.inr ⟨x9, hX, rfl, (hfc.2 84 11 (by omega)).trans hR4.2.2.2.2.2.2.2.2.1, (hfc.2 84 12 (by omega)).trans hR4.2.2.2.2.2.2.2.2.2, hR4.2.2.2.2.1, fun u hu => ?_⟩⟩⟩
    by_cases e : u = v9
    · rw [e, show upF V v9 x9.1 v9 = x9.1 from if_pos rfl]
      exact hR4.2.2.2.2.2.1.copied hR4.2.2.2.2.1 hI15
    · rw [show upF V v9 x9.1 u = V u from if_neg e]
      exact (((hV3 u hu).2.ex hx4).fa (hV3 u hu).1 hu hf4 hN3.1).beside (hV3 u hu).1 hI15 e
  · refine kt_bipush (pc := 11) (v := -2) (kx_dd d_Mo_rules 5 rfl) rfl ?_
    refine kt_ofX (kx_iret (pc := 13) rfl (kx_dd d_Mo_rules 6 rfl) (Nat.zero_le _) (Nat.zero_le _) ?_)
    rw [bP_0] at c8
    exact ⟨nw, T, z, WEx.rf, ⟨hwd.1, hwd.2.1.fc hf1 (by omega) (fun j => ⟨by omega, by omega⟩), hwd.2.2⟩, by omega, (hf1.mono (fun a j q => by unfold FrR FrA FrD; omega)).n, by rw [hf1.1]; omega, e5b, Or.inl ⟨c8, rfl, fun u hu => (hV u hu).2.fm hf1 (fun a j q1 q2 => by omega), hf1.2 84 11 (by omega), hf1.2 84 12 (by omega)⟩⟩
