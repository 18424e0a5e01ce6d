/-! the reference: readOrder -/
def mixO (r : RU) (L : List Nat) (k : Nat) : Nat := if k < L.length then L.getD k 0 else ruO r k
theorem mixO_snoc (r : RU) (L : List Nat) (q : Nat) : mixO r (L ++ [q]) = upF (mixO r L) L.length q := by
  funext k
  unfold mixO upF
  rw [List.length_append, List.length_singleton]
  show _ = if k = L.length then q else if k < L.length then L.getD k 0 else ruO r k
  by_cases e : k = L.length
  · subst e
    rw [if_pos (by omega), if_pos rfl, List.getD_eq_getElem?_getD, List.getElem?_append_right (Nat.le_refl _), Nat.sub_self]
    rfl
  · rw [if_neg e]
    by_cases e2 : k < L.length
    · rw [if_pos (by omega), if_pos e2, List.getD_eq_getElem?_getD, List.getD_eq_getElem?_getD, List.getElem?_append_left e2]
    · rw [if_neg (by omega), if_neg e2]
theorem mixO_lt {r : RU} (ho : RUok r) {L : List Nat} (hL : ∀ x ∈ L, x < 4) : ∀ k, k < 4 → mixO r L k < 4 := by
  intro k hk
  unfold mixO
  split
  next q =>
    rw [List.getD_eq_getElem?_getD, List.getElem?_eq_getElem q]
    exact hL _ (List.getElem_mem q)
  · exact ho.2.2.2.2.2.2.2 k hk
theorem RUm.ord4 {r : RU} {n : Nat} {T : Nat → Nat} {O : Nat → Nat} {h h' : kx_Mem} (hp : RUm r 4 n T h) (hf : kx_Fc (fun a j => (a = 90 ∧ 16 ≤ j) ∨ a = 106) h h') (hO : ∀ k, k < 4 → h'.1 90 (16 + k) = nI (O k)) : RUm (ruOrd r O) 4 n T h' := by
  obtain ⟨h1, h2, h3, h4, h5, h6, h7, h8, h9, h10⟩ := hp
  have e : ∀ b k, b ≠ 90 → b ≠ 106 → h'.1 b k = h.1 b k := fun b k hb hb2 => hf.2 b k (by omega)
  exact ⟨fun k hk => by rw [e _ _ (by decide) (by decide)]; exact h1 k hk, hO, by rw [e _ _ (by decide) (by decide)]; exact h3, fun k hk => by rw [e _ _ (by decide) (by decide), e _ _ (by decide) (by decide)]; exact h4 k hk, by rw [e _ _ (by decide) (by decide)]; exact h5, fun k hk => by rw [e _ _ (by decide) (by decide), e _ _ (by decide) (by decide)]; exact h6 k hk, by rw [e _ _ (by decide) (by decide)]; exact h7, fun k y hy => by rw [e _ _ (by decide) (by decide), e _ _ (by decide) (by decide)]; exact h8 k y hy, by rw [e _ _ (by decide) (by decide)]; exact h9, fun k y hy => by rw [e _ _ (by decide) (by decide), e _ _ (by decide) (by decide), e _ _ (by decide) (by decide)]; exact h10 k y hy⟩
theorem RM.ord {b : Nat → Int32} {n i : Nat} {r : RU} {fl : Nat → Prop} {nw : Nat} {T : Nat → Nat} {z : Nat} {O O' : Nat → Nat} {h h' : kx_Mem} (hR : RM b n i (ruOrd r O) fl nw T z h) (hf : kx_Fc (fun a j => (a = 90 ∧ 16 ≤ j) ∨ a = 106) h h') (h4 : ∀ k, k < 4 → O' k < 4) (hO : ∀ k, k < 4 → h'.1 90 (16 + k) = nI (O' k)) : RM b n i (ruOrd r O') fl nw T z h' :=
  hR.put (r' := ruOrd r O') (hf.mono (fun a j q => by omega)) (hR.2.2.2.2.1.ord h4) (hR.2.2.2.2.2.1.ord4 hf hO) (fun k hk => (hf.2 105 k (by omega)).trans (hR.2.2.2.2.2.2.2.1 k hk))
theorem FrD.o {h h' : kx_Mem} (hf : kx_Fc (fun a j => (a = 90 ∧ 16 ≤ j) ∨ a = 106) h h') : kx_Fc FrD h h' := hf.mono (fun a j q => by unfold FrD; omega)
def pL (L : List Nat) (x : Nat) : List Nat := L ++ (List.range x).filter (fun y => !L.contains y)
theorem pL_succ (L : List Nat) (x : Nat) : pL L (x + 1) = if x ∈ L then pL L x else pL L x ++ [x] := by
  unfold pL
  rw [List.range_succ, List.filter_append]
  by_cases e : x ∈ L
  · simp [e]
  · simp [e]
theorem pL_ok {L : List Nat} (hL : ∀ x ∈ L, x < 4) (hd : L.Nodup) : ∀ x, x ≤ 4 → (∀ y ∈ pL L x, y < 4) ∧ (pL L x).Nodup ∧ ∀ y ∈ pL L x, y ∈ L ∨ y < x
  | 0, _ => by
    have e : pL L 0 = L := by unfold pL; simp
    rw [e]
    exact ⟨hL, hd, fun y hy => Or.inl hy⟩
  | x + 1, hx => by
    obtain ⟨h1, h2, h3⟩ := pL_ok hL hd x (by omega)
    rw [pL_succ]
    by_cases e : x ∈ L
    · rw [if_pos e]
      exact ⟨h1, h2, fun y hy => (h3 y hy).imp_right (by omega)⟩
    · rw [if_neg e]
      refine ⟨fun y hy => ?_, ?_, fun y hy => ?_⟩
      · rcases List.mem_append.mp hy with q | q
        · exact h1 y q
        · rw [List.mem_singleton.mp q]; omega
      · refine List.nodup_append.mpr ⟨h2, by simp, ?_⟩
        intro u hu w hw
        rw [List.mem_singleton.mp hw]
        intro q
        rcases h3 u hu with k | k
        · exact e (q ▸ k)
        · omega
      · rcases List.mem_append.mp hy with q | q
        · exact (h3 y q).imp_right (by omega)
        · rw [List.mem_singleton.mp q]; right; omega
theorem pL_cov {L : List Nat} : ∀ x y, y < x → y ∈ pL L x
  | x, y, h => by
    unfold pL
    by_cases e : y ∈ L
    · exact List.mem_append_left _ e
    · exact List.mem_append_right _ (List.mem_filter.mpr ⟨List.mem_range.mpr h, by simp [e]⟩)
theorem pL_len {L : List Nat} (hL : ∀ x ∈ L, x < 4) (hd : L.Nodup) : (pL L 4).length = 4 := by
  obtain ⟨h1, h2, -⟩ := pL_ok hL hd 4 (Nat.le_refl _)
  have h3 := nodup4 h1 h2
  have h4 : ∀ k, k ≤ 4 → ∀ M : List Nat, M.Nodup → (∀ y, y < k → y ∈ M) → k ≤ M.length := by
    intro k
    induction k with
    | zero => intro _ M _ _; exact Nat.zero_le _
    | succ k ih =>
      intro hk M hM hc
      have := ih (by omega) (M.erase k) (hM.erase k) (fun y hy => hM.mem_erase_iff.mpr ⟨by omega, hc y (by omega)⟩)
      rw [List.length_erase_of_mem (hc k (by omega))] at this
      have : 0 < M.length := List.length_pos_of_mem (hc k (by omega))
      omega
  have := h4 4 (Nat.le_refl _) _ h2 (fun y hy => pL_cov 4 y hy)
  omega
theorem y_or3 {l : Launch} {g : kx_G} {d : Nat} {h0 : kx_Mem} (b : Nat → Int32) (n : Nat) (r : RU) (hro : RUok r) (nw : Nat) (T : Nat → Nat) (z : Nat) (R9 : Fa ⊕ (List Nat × Nat)) (i : Nat) (L : List Nat) (hL : ∀ x ∈ L, x < 4) (hd : L.Nodup) (hR9 : R9 = .inr (L, i)) : ∀ f x, x + f = 4 → ∀ h, RM b n i (ruOrd r (mixO r (pL L x))) (wfl r) nw T z h → (∀ y, y < 4 → h.1 106 y = bP (y ∈ L)) → kx_Fc FrD h0 h → kt_X (l, g, m_Mo_readOrder, d + 7, 0, 0, (fun v h' => ∃ q, R9 = .inr q ∧ v = none ∧ RM b n q.2 (ruOrd r (finO q.1)) (wfl r) nw T z h' ∧ kx_Fc FrD h0 h'), (fun h' => ∃ f, R9 = .inl f ∧ ZF f nw T z h0 h'), []) 0 0 93 [some (.ref 84), some (.int (nI (pL L x).length)), some (.int (nI x))] [] h := by
  intro f
  induction f with
  | zero =>
    intro x hx h hR hfl hf
    have hx4 : x = 4 := by omega
    subst hx4
    have hm := hR.1
    have hin := hR.2.2.1
    have hki := tK_le (b := b) (n := n) (i := i)
    obtain ⟨k1, k2, k3, k4⟩ := id hR.2.2.2.1
    refine kt_iload_n (pc := 93) (kx_dd d_Mo_readOrder 56 rfl) rfl rfl ?_
    refine kt_iconst (pc := 94) (v := 4) (kx_dd d_Mo_readOrder 57 rfl) rfl ?_
    refine kt_icmp_ge (pc := 95) (tgt := 129) (kx_dd d_Mo_readOrder 58 rfl) rfl (fun c95 => ?_) (fun c95 => ?_)
    · refine kt_ofX (kx_vret (pc := 129) rfl (kx_dd d_Mo_readOrder 75 rfl) (Nat.le_refl _) (Nat.le_refl _) ?_)
      refine ⟨_, hR9, rfl, ?_, hf⟩
      have hpl := pL_len hL hd
      refine hR.ord (O' := finO L) kx_Fc.rf (fun k _ => finO_lt hL k) (fun k hk => ?_)
      rw [hR.2.2.2.2.2.1.2.1 k hk]
      show nI (mixO r (pL L 4) k) = _
      unfold mixO
      rw [if_pos (by omega)]
      rfl
    · exact absurd (by decide) c95
  | succ f ih =>
    intro x hx h hR hfl hf
    have hlt : x < 4 := by omega
    obtain ⟨p1, p2, p3⟩ := pL_ok hL hd x (by omega)
    obtain ⟨s1, s2, s3⟩ := pL_ok hL hd (x + 1) (by omega)
    have hln := nodup4 s1 s2
    have eS := pL_succ L x
    have hm := hR.1
    have hin := hR.2.2.1
    have hki := tK_le (b := b) (n := n) (i := i)
    obtain ⟨k1, k2, k3, k4⟩ := id hR.2.2.2.1
    refine kt_iload_n (pc := 93) (kx_dd d_Mo_readOrder 56 rfl) rfl rfl ?_
    refine kt_iconst (pc := 94) (v := 4) (kx_dd d_Mo_readOrder 57 rfl) rfl ?_
    refine kt_icmp_ge (pc := 95) (tgt := 129) (kx_dd d_Mo_readOrder 58 rfl) rfl (fun c95 => ?_) (fun c95 => ?_)
    · exact absurd c95 (nI_ge (b := 4) (by omega) (by decide))
    · refine kt_aload_n (pc := 98) (kx_dd d_Mo_readOrder 59 rfl) rfl rfl ?_
      refine kt_getR (pc := 99) (b := 106) fl_Mo_193 (hm.k 0 rfl) rfl (hm.r 21 rfl) (kx_dd d_Mo_readOrder 60 rfl) ?_
      refine kt_iload_n (pc := 102) (kx_dd d_Mo_readOrder 61 rfl) rfl rfl ?_
      refine kt_zaldn (pc := 103) x (hm.t 22 rfl) rfl hlt (by decide) (kx_dd d_Mo_readOrder 62 rfl) ?_
      refine kt_if_eq (pc := 104) (tgt := 110) (kx_dd d_Mo_readOrder 63 rfl) rfl (fun c104 => ?_) (fun c104 => ?_)
      · refine kt_aload_n (pc := 110) (kx_dd d_Mo_readOrder 65 rfl) rfl rfl ?_
        refine kt_getR (pc := 111) (b := 90) fl_Mo_88 (hm.k 0 rfl) rfl (hm.r 5 rfl) (kx_dd d_Mo_readOrder 66 rfl) ?_
        refine kt_bipush (pc := 114) (v := 16) (kx_dd d_Mo_readOrder 67 rfl) rfl ?_
        refine kt_iload_n (pc := 116) (kx_dd d_Mo_readOrder 68 rfl) rfl rfl ?_
        refine kt_iadd (pc := 117) (kx_dd d_Mo_readOrder 69 rfl) ?_
        refine kt_iload_n (pc := 118) (kx_dd d_Mo_readOrder 70 rfl) rfl rfl ?_
        refine kt_iastn (pc := 119) (16 + (pL L x).length) (hm.t 6 rfl) (by decide) (nI_add 16 _) (by rw [hfl x hlt, bP_0] at c104; rw [if_neg c104] at eS; rw [eS] at hln; simp at hln; omega) (by decide) (kx_dd d_Mo_readOrder 71 rfl) ?_
        refine kt_iinc_e (pc := 120) (v := nI ((pL L x).length + 1)) (lv' := [_, _, _]) (kx_dd d_Mo_readOrder 72 rfl) rfl (Nat.le_of_ble_eq_true rfl) (nI_1 _) rfl ?_
        refine kt_iinc_e (pc := 123) (v := nI (x + 1)) (lv' := [_, _, _]) (kx_dd d_Mo_readOrder 73 rfl) rfl (Nat.le_of_ble_eq_true rfl) (nI_1 x) rfl ?_
        refine kt_goto (pc := 126) (tgt := 93) (kx_dd d_Mo_readOrder 74 rfl) rfl ?_
        rw [hfl x hlt, bP_0] at c104
        rw [if_neg c104] at eS
        have hl4 : (pL L x).length < 4 := by rw [eS] at hln; simp at hln; omega
        have hf9 : kx_Fc (fun a j => (a = 90 ∧ 16 ≤ j) ∨ a = 106) h (kx_setI h 90 (16 + (pL L x).length) (nI x)) := kx_Fc.set (Or.inl ⟨rfl, by omega⟩)
        have ih1 := ih (x + 1) (by omega) (kx_setI h 90 (16 + (pL L x).length) (nI x))
        rw [eS, List.length_append, List.length_singleton] at ih1
        refine ih1 (hR.ord hf9 (mixO_lt hro (by rw [← eS]; exact s1)) (fun k hk => ?_)) (fun y hy => (setI_ne (Or.inl (by decide))).trans (hfl y hy)) (hf.tr (FrD.o hf9))
        rw [mixO_snoc]
        unfold upF
        by_cases e : k = (pL L x).length
        · rw [if_pos e, e]; exact setI_at
        · rw [if_neg e, setI_ne (Or.inr (by omega))]; exact hR.2.2.2.2.2.1.2.1 k hk
      · refine kt_goto (pc := 107) (tgt := 123) (kx_dd d_Mo_readOrder 64 rfl) rfl ?_
        refine kt_iinc_e (pc := 123) (v := nI (x + 1)) (lv' := [_, _, _]) (kx_dd d_Mo_readOrder 73 rfl) rfl (Nat.le_of_ble_eq_true rfl) (nI_1 x) rfl ?_
        refine kt_goto (pc := 126) (tgt := 93) (kx_dd d_Mo_readOrder 74 rfl) rfl ?_
        rw [hfl x hlt, bP_0, Classical.not_not] at c104
        rw [if_pos c104] at eS
        have ih1 := ih (x + 1) (by omega) h
        rw [eS] at ih1
        exact ih1 hR hfl hf
theorem y_or2 {l : Launch} {g : kx_G} {d : Nat} {h0 : kx_Mem} (b : Nat → Int32) (n : Nat) (r : RU) (hro : RUok r) (nw : Nat) (T : Nat → Nat) (z : Nat) (R9 : Fa ⊕ (List Nat × Nat)) : ∀ f i L, L.length + f = 5 → (∀ x ∈ L, x < 4) → L.Nodup → ordG b n f i L = R9 → ∀ h w2, RM b n i (ruOrd r (mixO r L)) (wfl r) nw T z h → (∀ y, y < 4 → h.1 106 y = bP (y ∈ L)) → (L = [] → chO b n i nm4 ≠ none) → kx_Fc FrD h0 h → kt_X (l, g, m_Mo_readOrder, d + 7, 0, 0, (fun v h' => ∃ q, R9 = .inr q ∧ v = none ∧ RM b n q.2 (ruOrd r (finO q.1)) (wfl r) nw T z h' ∧ kx_Fc FrD h0 h'), (fun h' => ∃ f, R9 = .inl f ∧ ZF f nw T z h0 h'), []) 0 0 36 [some (.ref 84), some (.int (nI L.length)), w2] [] h := by
  intro f
  induction f with
  | zero =>
    intro i L hl hL hd0
    have h4 : L.length ≤ 4 := nodup4 hL hd0
    omega
  | succ f ih =>
    intro i L hl hL hd0 he h w2 hR hfl hne hf
    have hlen : L.length ≤ 4 := nodup4 hL hd0
    unfold ordG at he
    have hm := hR.1
    have hin := hR.2.2.1
    have hki := tK_le (b := b) (n := n) (i := i)
    obtain ⟨k1, k2, k3, k4⟩ := id hR.2.2.2.1
    refine kt_aload_n (pc := 36) (kx_dd d_Mo_readOrder 22 rfl) rfl rfl ?_
    refine kt_invV (pc := 37) (a := 84) (as := []) (kx_dd d_Mo_readOrder 23 rfl) ⟨lk_Mo_196, wi_Mo_roleAtHand, we_Mo_roleAtHand⟩ w_Mo_roleAtHand (hm.k 0 rfl) rfl rfl rfl rfl (Nat.le_of_ble_eq_true rfl) (y_roleAtHand (d := d + 1) b n i (ruOrd r (mixO r L)) _ nw T z hR) (Nat.le_refl _) ⟨Nat.le_refl _, Nat.le_refl _⟩ (fun v h' hq => ?_)
    obtain ⟨rfl, he⟩ := hq
    rw [he]
    clear he
    refine kt_iconst (pc := 40) (v := -1) (kx_dd d_Mo_readOrder 24 rfl) rfl ?_
    refine kt_icmp_eq (pc := 41) (tgt := 91) (kx_dd d_Mo_readOrder 25 rfl) rfl (fun c41 => ?_) (fun c41 => ?_)
    · rw [chO_i (by decide)] at c41
      rw [c41] at he
      have hLn : L ≠ [] := fun z => hne z c41
      simp only [hLn, if_false] at he
      refine kt_iconst (pc := 91) (v := 0) (kx_dd d_Mo_readOrder 54 rfl) rfl ?_
      refine kt_istore_ne (pc := 92) (lv' := [_, _, _]) (kx_dd d_Mo_readOrder 55 rfl) rfl (Nat.le_of_ble_eq_true rfl) rfl ?_
      have e0 : pL L 0 = L := by unfold pL; simp
      have k := y_or3 (l := l) (g := g) (d := d) (h0 := h0) b n r hro nw T z R9 i L hL hd0 he.symm 4 0 (by omega) h (by rw [e0]; exact hR) hfl hf
      rw [e0] at k
      exact k
    · refine kt_aload_n (pc := 44) (kx_dd d_Mo_readOrder 26 rfl) rfl rfl ?_
      refine kt_invV (pc := 45) (a := 84) (as := []) (kx_dd d_Mo_readOrder 27 rfl) ⟨lk_Mo_196, wi_Mo_roleAtHand, we_Mo_roleAtHand⟩ w_Mo_roleAtHand (hm.k 0 rfl) rfl rfl rfl rfl (Nat.le_of_ble_eq_true rfl) (y_roleAtHand (d := d + 1) b n i (ruOrd r (mixO r L)) _ nw T z hR) (Nat.le_refl _) ⟨Nat.le_refl _, Nat.le_refl _⟩ (fun v h' hq => ?_)
      obtain ⟨rfl, he⟩ := hq
      rw [he]
      clear he
      rw [chO_i (by decide)] at c41
      obtain ⟨q4, hq4⟩ := Option.ne_none_iff_exists'.mp c41
      have hq44 : q4 < 4 := (chO_lt hq4).2
      rw [show oI (chO b n i nm4) = nI q4 by rw [hq4]; rfl]
      rw [hq4] at he
      simp only at he
      refine kt_istore_ne (pc := 48) (lv' := [_, _, _]) (kx_dd d_Mo_readOrder 28 rfl) rfl (Nat.le_of_ble_eq_true rfl) rfl ?_
      refine kt_aload_n (pc := 49) (kx_dd d_Mo_readOrder 29 rfl) rfl rfl ?_
      refine kt_getR (pc := 50) (b := 106) fl_Mo_193 (hm.k 0 rfl) rfl (hm.r 21 rfl) (kx_dd d_Mo_readOrder 30 rfl) ?_
      refine kt_iload_n (pc := 53) (kx_dd d_Mo_readOrder 31 rfl) rfl rfl ?_
      refine kt_zaldn (pc := 54) q4 (hm.t 22 rfl) rfl hq44 (by decide) (kx_dd d_Mo_readOrder 32 rfl) ?_
      refine kt_if_eq (pc := 55) (tgt := 64) (kx_dd d_Mo_readOrder 33 rfl) rfl (fun c55 => ?_) (fun c55 => ?_)
      · have hl3 : L.length < 4 := by
          have c55b := c55
          rw [hfl q4 hq44, bP_0] at c55b
          have := nodup4 (L := L ++ [q4]) (fun x hx => by rcases List.mem_append.mp hx with y | y; exact hL x y; rw [List.mem_singleton.mp y]; exact hq44) (List.nodup_append.mpr ⟨hd0, by simp, by intro x hx y hy; rw [List.mem_singleton.mp hy]; exact fun z => c55b (z ▸ hx)⟩)
          simp at this
          omega
        rw [hfl q4 hq44, bP_0] at c55
        refine kt_aload_n (pc := 64) (kx_dd d_Mo_readOrder 38 rfl) rfl rfl ?_
        refine kt_getR (pc := 65) (b := 106) fl_Mo_193 (hm.k 0 rfl) rfl (hm.r 21 rfl) (kx_dd d_Mo_readOrder 39 rfl) ?_
        refine kt_iload_n (pc := 68) (kx_dd d_Mo_readOrder 40 rfl) rfl rfl ?_
        refine kt_iconst (pc := 69) (v := 1) (kx_dd d_Mo_readOrder 41 rfl) rfl ?_
        refine kt_zastn (pc := 70) q4 (hm.t 22 rfl) (by decide) rfl hq44 (by decide) (kx_dd d_Mo_readOrder 42 rfl) ?_
        refine kt_aload_n (pc := 71) (kx_dd d_Mo_readOrder 43 rfl) rfl rfl ?_
        refine kt_getR (pc := 72) (b := 90) fl_Mo_88 (hm.k 0 rfl) rfl (hm.r 5 rfl) (kx_dd d_Mo_readOrder 44 rfl) ?_
        refine kt_bipush (pc := 75) (v := 16) (kx_dd d_Mo_readOrder 45 rfl) rfl ?_
        refine kt_iload_n (pc := 77) (kx_dd d_Mo_readOrder 46 rfl) rfl rfl ?_
        refine kt_iadd (pc := 78) (kx_dd d_Mo_readOrder 47 rfl) ?_
        refine kt_iload_n (pc := 79) (kx_dd d_Mo_readOrder 48 rfl) rfl rfl ?_
        refine kt_iastn (pc := 80) (16 + L.length) (hm.t 6 rfl) (by decide) (nI_add 16 _) (by omega) (by decide) (kx_dd d_Mo_readOrder 49 rfl) ?_
        refine kt_iinc_e (pc := 81) (v := nI (L ++ [q4]).length) (lv' := [_, _, _]) (kx_dd d_Mo_readOrder 50 rfl) rfl (Nat.le_of_ble_eq_true rfl) (by rw [List.length_append]; exact nI_1 _) rfl ?_
        have hf9 : kx_Fc (fun a j => (a = 90 ∧ 16 ≤ j) ∨ a = 106) h (kx_setI (kx_setI h 106 q4 1) 90 (16 + L.length) (nI q4)) := (kx_Fc.set (Or.inr rfl)).tr (kx_Fc.set (Or.inl ⟨rfl, by omega⟩))
        have hLL : ∀ x ∈ L ++ [q4], x < 4 := fun x hx => by rcases List.mem_append.mp hx with y | y; exact hL x y; rw [List.mem_singleton.mp y]; exact hq44
        have hDD : (L ++ [q4]).Nodup := List.nodup_append.mpr ⟨hd0, by simp, by intro x hx y hy; rw [List.mem_singleton.mp hy]; exact fun z => c55 (z ▸ hx)⟩
        have hR9 : RM b n i (ruOrd r (mixO r (L ++ [q4]))) (wfl r) nw T z (kx_setI (kx_setI h 106 q4 1) 90 (16 + L.length) (nI q4)) := hR.ord hf9 (mixO_lt hro hLL) (fun k hk => by
          rw [mixO_snoc]
          unfold upF
          by_cases e : k = L.length
          · rw [if_pos e, e]; exact setI_at
          · rw [if_neg e, setI_ne (Or.inr (by omega)), setI_ne (Or.inl (by decide))]; exact hR.2.2.2.2.2.1.2.1 k hk)
        have hfl9 : ∀ y, y < 4 → (kx_setI (kx_setI h 106 q4 1) 90 (16 + L.length) (nI q4)).1 106 y = bP (y ∈ L ++ [q4]) := fun y hy => by
          rw [setI_ne (Or.inl (by decide))]
          by_cases e : y = q4
          · rw [e, setI_at, bP_t (by simp)]
          · rw [setI_ne (Or.inr e), hfl y hy]
            exact bP_c (by simp [e])
        have hm := hR9.1
        refine kt_aload_n (pc := 84) (kx_dd d_Mo_readOrder 51 rfl) rfl rfl ?_
        refine kt_invV (pc := 85) (a := 84) (as := []) (kx_dd d_Mo_readOrder 52 rfl) ⟨lk_Mo_77, wi_Mo_scan, we_Mo_scan⟩ w_Mo_scan (hm.k 0 rfl) rfl rfl rfl rfl (Nat.le_of_ble_eq_true rfl) (y_scan (d := d + 5) hR9.1 b n (tE b n i) hR9.2.1.1 hR9.2.1.2 (tE_n hR9.2.2.1).1 hR9.2.2.2.1.1) (Nat.le_refl _) ⟨Nat.le_refl _, Nat.le_refl _⟩ (fun v h' hq => ?_)
        revert h'
        intro h2 hq
        obtain ⟨rfl, hts9, hfs9⟩ := hq
        have hR2 := hR9.scan hts9 hfs9
        have hF2 : kx_Fc FrD (kx_setI (kx_setI h 106 q4 1) 90 (16 + L.length) (nI q4)) h2 := kx_Fc.fs hfs9
        have hm := hR2.1
        refine kt_goto (pc := 88) (tgt := 36) (kx_dd d_Mo_readOrder 53 rfl) rfl ?_
        rw [if_neg c55] at he
        refine ih (tE b n i) (L ++ [q4]) (by simp; omega) hLL hDD he h2 _ hR2 (fun y hy => ?_) (by simp) ((hf.tr (FrD.o hf9)).tr hF2)
        rw [hfs9.2 106 y (by simp [FsM])]
        exact hfl9 y hy
      · refine kt_aload_n (pc := 58) (kx_dd d_Mo_readOrder 34 rfl) rfl rfl ?_
        refine kt_iconst (pc := 59) (v := 3) (kx_dd d_Mo_readOrder 35 rfl) rfl ?_
        refine kt_invV (pc := 60) (a := 84) (as := [_]) (kx_dd d_Mo_readOrder 36 rfl) ⟨lk_Mo_73, wi_Mo_wrong, we_Mo_wrong⟩ w_Mo_wrong (hm.k 0 rfl) rfl rfl rfl rfl (Nat.le_of_ble_eq_true rfl) (y_wrong (d := d + 6) hm (nI 3)) (Nat.le_refl _) ⟨Nat.le_refl _, Nat.le_refl _⟩ (fun v h' hq => ?_)
        revert h'
        intro h9 hq
        obtain ⟨rfl, rfl⟩ := hq
        refine kt_athrow (kx_dd d_Mo_readOrder 37 rfl) rfl (Nat.le_refl _) (Nat.le_refl _) ?_
        rw [hfl q4 hq44, bP_0, Classical.not_not] at c55
        rw [if_pos c55] at he
        exact ⟨_, he.symm, (hR.fau 3).up WEx.rf (Nat.le_refl _) hf⟩
theorem y_or1 {l : Launch} {g : kx_G} {d : Nat} {h0 : kx_Mem} (b : Nat → Int32) (n : Nat) (r : RU) (hro : RUok r) (nw : Nat) (T : Nat → Nat) (z : Nat) (R9 : Fa ⊕ (List Nat × Nat)) (i : Nat) (hR9 : ordG b n 5 i [] = R9) : ∀ f k, k + f = 4 → ∀ h, RM b n i (ruOrd r (mixO r [])) (wfl r) nw T z h → (∀ y, y < k → h.1 106 y = 0) → kx_Fc FrD h0 h → kt_X (l, g, m_Mo_readOrder, d + 7, 0, 0, (fun v h' => ∃ q, R9 = .inr q ∧ v = none ∧ RM b n q.2 (ruOrd r (finO q.1)) (wfl r) nw T z h' ∧ kx_Fc FrD h0 h'), (fun h' => ∃ f, R9 = .inl f ∧ ZF f nw T z h0 h'), []) 0 0 2 [some (.ref 84), some (.int (nI k)), none] [] h := by
  intro f
  induction f with
  | zero =>
    intro k hk h hR hfl hf
    have hk4 : k = 4 := by omega
    subst hk4
    have hm := hR.1
    have hin := hR.2.2.1
    have hki := tK_le (b := b) (n := n) (i := i)
    obtain ⟨k1, k2, k3, k4⟩ := id hR.2.2.2.1
    refine kt_iload_n (pc := 2) (kx_dd d_Mo_readOrder 2 rfl) rfl rfl ?_
    refine kt_iconst (pc := 3) (v := 4) (kx_dd d_Mo_readOrder 3 rfl) rfl ?_
    refine kt_icmp_ge (pc := 4) (tgt := 20) (kx_dd d_Mo_readOrder 4 rfl) rfl (fun c4 => ?_) (fun c4 => ?_)
    · refine kt_iconst (pc := 20) (v := 0) (kx_dd d_Mo_readOrder 12 rfl) rfl ?_
      refine kt_istore_ne (pc := 21) (lv' := [_, _, _]) (kx_dd d_Mo_readOrder 13 rfl) rfl (Nat.le_of_ble_eq_true rfl) rfl ?_
      refine kt_aload_n (pc := 22) (kx_dd d_Mo_readOrder 14 rfl) rfl rfl ?_
      refine kt_invV (pc := 23) (a := 84) (as := []) (kx_dd d_Mo_readOrder 15 rfl) ⟨lk_Mo_196, wi_Mo_roleAtHand, we_Mo_roleAtHand⟩ w_Mo_roleAtHand (hm.k 0 rfl) rfl rfl rfl rfl (Nat.le_of_ble_eq_true rfl) (y_roleAtHand (d := d + 1) b n i (ruOrd r (mixO r [])) _ nw T z hR) (Nat.le_refl _) ⟨Nat.le_refl _, Nat.le_refl _⟩ (fun v h' hq => ?_)
      obtain ⟨rfl, he⟩ := hq
      rw [he]
      clear he
      refine kt_iconst (pc := 26) (v := -1) (kx_dd d_Mo_readOrder 16 rfl) rfl ?_
      refine kt_icmp_ne (pc := 27) (tgt := 36) (kx_dd d_Mo_readOrder 17 rfl) rfl (fun c27 => ?_) (fun c27 => ?_)
      · rw [chO_i (by decide)] at c27
        exact y_or2 b n r hro nw T z R9 5 i [] rfl (by simp) List.nodup_nil hR9 h none hR (fun y hy => by rw [hfl y hy, bP_f (by simp)]) (fun _ => c27) hf
      · refine kt_aload_n (pc := 30) (kx_dd d_Mo_readOrder 18 rfl) rfl rfl ?_
        refine kt_iconst (pc := 31) (v := 1) (kx_dd d_Mo_readOrder 19 rfl) rfl ?_
        refine kt_invV (pc := 32) (a := 84) (as := [_]) (kx_dd d_Mo_readOrder 20 rfl) ⟨lk_Mo_73, wi_Mo_wrong, we_Mo_wrong⟩ w_Mo_wrong (hm.k 0 rfl) rfl rfl rfl rfl (Nat.le_of_ble_eq_true rfl) (y_wrong (d := d + 6) hm (nI 1)) (Nat.le_refl _) ⟨Nat.le_refl _, Nat.le_refl _⟩ (fun v h' hq => ?_)
        revert h'
        intro h9 hq
        obtain ⟨rfl, rfl⟩ := hq
        refine kt_athrow (kx_dd d_Mo_readOrder 21 rfl) rfl (Nat.le_refl _) (Nat.le_refl _) ?_
        rw [chO_i (by decide)] at c27
        have e9 : ordG b n 5 i [] = .inl (1, tP b n i) := by
          unfold ordG
          rw [c27]
          rfl
        exact ⟨_, hR9.symm.trans e9, (hR.fau 1).up WEx.rf (Nat.le_refl _) hf⟩
    · exact absurd (by decide) c4
  | succ f ih =>
    intro k hk h hR hfl hf
    have hm := hR.1
    have hin := hR.2.2.1
    have hki := tK_le (b := b) (n := n) (i := i)
    obtain ⟨k1, k2, k3, k4⟩ := id hR.2.2.2.1
    refine kt_iload_n (pc := 2) (kx_dd d_Mo_readOrder 2 rfl) rfl rfl ?_
    refine kt_iconst (pc := 3) (v := 4) (kx_dd d_Mo_readOrder 3 rfl) rfl ?_
    refine kt_icmp_ge (pc := 4) (tgt := 20) (kx_dd d_Mo_readOrder 4 rfl) rfl (fun c4 => ?_) (fun c4 => ?_)
    · exact absurd c4 (nI_ge (b := 4) (by omega) (by decide))
    · refine kt_aload_n (pc := 7) (kx_dd d_Mo_readOrder 5 rfl) rfl rfl ?_
      refine kt_getR (pc := 8) (b := 106) fl_Mo_193 (hm.k 0 rfl) rfl (hm.r 21 rfl) (kx_dd d_Mo_readOrder 6 rfl) ?_
      refine kt_iload_n (pc := 11) (kx_dd d_Mo_readOrder 7 rfl) rfl rfl ?_
      refine kt_iconst (pc := 12) (v := 0) (kx_dd d_Mo_readOrder 8 rfl) rfl ?_
      refine kt_zastn (pc := 13) k (hm.t 22 rfl) (by decide) rfl (by omega) (by decide) (kx_dd d_Mo_readOrder 9 rfl) ?_
      refine kt_iinc_e (pc := 14) (v := nI (k + 1)) (lv' := [_, _, _]) (kx_dd d_Mo_readOrder 10 rfl) rfl (Nat.le_of_ble_eq_true rfl) (nI_1 k) rfl ?_
      refine kt_goto (pc := 17) (tgt := 2) (kx_dd d_Mo_readOrder 11 rfl) rfl ?_
      have hf9 : kx_Fc (fun a j => (a = 90 ∧ 16 ≤ j) ∨ a = 106) h (kx_setI h 106 k (vp_nar .boolean 0)) := kx_Fc.set (Or.inr rfl)
      refine ih (k + 1) (by omega) _ (hR.ord hf9 hR.2.2.2.2.1.2.2.2.2.2.2.2 (fun j hj => (setI_ne (Or.inl (by decide))).trans (hR.2.2.2.2.2.1.2.1 j hj))) (fun y hy => ?_) (hf.tr (FrD.o hf9))
      by_cases e : y = k
      · rw [e]; exact setI_at
      · rw [setI_ne (Or.inr e)]; exact hfl y (by omega)
theorem y_readOrder {l : Launch} {g : kx_G} {d : Nat} {h : kx_Mem} (b : Nat → Int32) (n i : Nat) (r : RU) (nw : Nat) (T : Nat → Nat) (z : Nat) (hR : RM b n i r (wfl r) nw T z h) : kt_Sp l g m_Mo_readOrder [.ref 84] h (d + 7) 0 0 (fun v h' => ∃ q, ordG b n 5 i [] = .inr q ∧ v = none ∧ RM b n q.2 (ruOrd r (finO q.1)) (wfl r) nw T z h' ∧ kx_Fc FrD h h') (fun h' => ∃ f, ordG b n 5 i [] = .inl f ∧ ZF f nw T z h h') := by
  have hm := hR.1
  have hin := hR.2.2.1
  have hki := tK_le (b := b) (n := n) (i := i)
  obtain ⟨k1, k2, k3, k4⟩ := id hR.2.2.2.1
  have ho := hR.2.2.2.2.1
  have o16 := ho.1
  have hn6 := hR.2.1.1.2.1
  refine kt_enter (lv := [_, _, _]) (by decide +kernel) (Nat.le_of_ble_eq_true rfl) rfl ?_
  refine kt_iconst (pc := 0) (v := 0) (kx_dd d_Mo_readOrder 0 rfl) rfl ?_
  refine kt_istore_ne (pc := 1) (lv' := [_, _, _]) (kx_dd d_Mo_readOrder 1 rfl) rfl (Nat.le_of_ble_eq_true rfl) rfl ?_
  have hR0 : RM b n i (ruOrd r (mixO r [])) (wfl r) nw T z h := hR
  exact y_or1 b n r ho nw T z _ i rfl 4 0 (by omega) h hR0 (fun y hy => absurd hy (Nat.not_lt_zero y)) kx_Fc.rf
theorem y_once3 {l : Launch} {g : kx_G} {d : Nat} {h : kx_Mem} (b : Nat → Int32) (n i : Nat) (r : RU) (nw : Nat) (T : Nat → Nat) (z : Nat) (hR : RM b n i r (wfl r) nw T z h) : kt_Sp l g m_Mo_readOnce [.ref 84, .int 3] h (d + 9) 0 0 (fun v h' => ∃ q, bdF 9 b n i r = .inr q ∧ v = none ∧ RM b n q.2 q.1 (wfl q.1) nw T z h' ∧ kx_Fc FrD h h') (fun h' => ∃ f, bdF 9 b n i r = .inl f ∧ ZF f nw T z h h') := by
  have hm := hR.1
  have hin := hR.2.2.1
  have hki := tK_le (b := b) (n := n) (i := i)
  obtain ⟨k1, k2, k3, k4⟩ := id hR.2.2.2.1
  have ho := hR.2.2.2.2.1
  have o16 := ho.1
  have hn6 := hR.2.1.1.2.1
  refine kt_enter (lv := [_, _]) (by decide +kernel) (Nat.le_of_ble_eq_true rfl) rfl ?_
  refine kt_iload_n (pc := 0) (kx_dd d_Mo_readOnce 0 rfl) rfl rfl ?_
  refine kt_tableIn (pc := 1) (tgt := 168) (kx_dd d_Mo_readOnce 1 rfl) (by decide) (by decide) rfl rfl ?_
  refine kt_aload_n (pc := 168) (kx_dd d_Mo_readOnce 60 rfl) rfl rfl ?_
  refine kt_invT (a := 84) (as := []) (kx_dd d_Mo_readOnce 61 rfl) lm_Mo_176 wi_Mo_readOrder we_Mo_readOrder w_Mo_readOrder (hm.k 0 rfl) rfl rfl rfl rfl (Nat.le_of_ble_eq_true rfl) (y_readOrder (d := d + 1) b n i r nw T z hR) (Nat.le_refl _) ⟨Nat.le_refl _, Nat.le_refl _⟩ (fun v h' hq => ?_) (fun h' hz => Or.inl ⟨rfl, (by obtain ⟨f, z1, z2⟩ := hz; exact ⟨f, by show (match ordG b n 5 i [] with | .inl g => _ | .inr q => _) = _; rw [z1], z2⟩)⟩)
  revert h'
  intro h1 hq
  obtain ⟨q, z1, rfl, hR1, hF1⟩ := hq
  refine kt_goto (pc := 172) (tgt := 345) (kx_dd d_Mo_readOnce 62 rfl) rfl ?_
  refine kt_ofX (kx_vret (pc := 345) rfl (kx_dd d_Mo_readOnce 147 rfl) (Nat.le_refl _) (Nat.le_refl _) ?_)
  exact ⟨(ruOrd r (finO q.1), q.2), by show (match ordG b n 5 i [] with | .inl g => _ | .inr q => _) = _; rw [z1], rfl, hR1, hF1⟩
