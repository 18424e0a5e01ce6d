/-! the class: People, heirs -/
theorem rowH {h : kx_Mem} (hs : SC h) {r : Nat} (hr : r < 3) : h.2.2.1 22 r = some (23 + r) ∧ h.2.2.1 26 r = some (27 + r) ∧ h.2.2.2.1 (23 + r) = (50, 60) ∧ h.2.2.2.1 (27 + r) = (50, 60) := by
  match r, hr with
  | 0, _ => exact ⟨hs.r 28 rfl, hs.r 31 rfl, hs.t 23 rfl, hs.t 27 rfl⟩
  | 1, _ => exact ⟨hs.r 29 rfl, hs.r 32 rfl, hs.t 24 rfl, hs.t 28 rfl⟩
  | 2, _ => exact ⟨hs.r 30 rfl, hs.r 33 rfl, hs.t 25 rfl, hs.t 29 rfl⟩
def hePut : List (Nat × Nat) → Nat → Nat → List (Nat × Nat)
  | [], q, n => [(q, n)]
  | x :: L, q, n => if x.1 = q then (q, n) :: L else x :: hePut L q n
theorem hePut_eq : ∀ (L : List (Nat × Nat)) (q n j : Nat), (∀ i x, i < j → L[i]? = some x → x.1 ≠ q) → ((∃ x, L[j]? = some x ∧ x.1 = q) → hePut L q n = L.set j (q, n)) ∧ (j = L.length → hePut L q n = L ++ [(q, n)])
  | [], q, n, j, _ => ⟨fun ⟨x, hx, _⟩ => by simp at hx, fun _ => rfl⟩
  | y :: L, q, n, 0, _ => ⟨fun ⟨x, hx, hq⟩ => by
      have : y = x := by simpa using hx
      subst this
      simp [hePut, hq], fun h => by simp at h⟩
  | y :: L, q, n, j + 1, hn => by
    have h0 : y.1 ≠ q := hn 0 y (by omega) rfl
    have ih := hePut_eq L q n j (fun i x hi hx => hn (i + 1) x (by omega) (by simpa using hx))
    refine ⟨fun ⟨x, hx, hq⟩ => ?_, fun h => ?_⟩
    · have := ih.1 ⟨x, by simpa using hx, hq⟩
      simp [hePut, h0, this]
    · have := ih.2 (by simp at h; omega)
      simp [hePut, h0, this]
/-- the heirs as known: in the order in which they were first told, each with the parts told latest -/
noncomputable def heK (s : PS) (p kn : Nat) : Nat → List (Nat × Nat)
  | 0 => []
  | k + 1 => @ite _ (toldP s k 2 p kn) (Classical.propDecidable _) (hePut (heK s p kn k) (s.2.2.2.2.2.1 k) (s.2.2.2.2.2.2 k)) (heK s p kn k)
noncomputable def heF (s : PS) (p kn : Nat) : List (Nat × Nat) := heK s p kn s.2.1
theorem hePut_mem {L : List (Nat × Nat)} {q n : Nat} {x : Nat × Nat} (h : x ∈ hePut L q n) : x ∈ L ∨ x = (q, n) := by
  induction L with
  | nil => right; simpa [hePut] using h
  | cons y L ih =>
    unfold hePut at h
    split at h
    · rcases List.mem_cons.mp h with rfl | h
      · right; rfl
      · left; exact List.mem_cons_of_mem _ h
    · rcases List.mem_cons.mp h with rfl | h
      · left; exact List.mem_cons_self
      · rcases ih h with h | h
        · left; exact List.mem_cons_of_mem _ h
        · right; exact h
theorem hePut_fst {L : List (Nat × Nat)} {q n : Nat} : (hePut L q n).map (·.1) = if q ∈ L.map (·.1) then L.map (·.1) else L.map (·.1) ++ [q] := by
  induction L with
  | nil => simp [hePut]
  | cons y L ih =>
    unfold hePut
    by_cases hy : y.1 = q
    · simp [hy]
    · have hq : ¬ q = y.1 := fun e => hy e.symm
      simp only [hy, if_false, List.map_cons, ih, List.mem_cons, hq, false_or]
      split <;> simp
theorem ph_len : ∀ (n : Nat) (L : List Nat), L.Nodup → (∀ x ∈ L, x < n) → L.length ≤ n
  | 0, L, _, h => by
    cases L with
    | nil => simp
    | cons a L => exact absurd (h a List.mem_cons_self) (Nat.not_lt_zero _)
  | n + 1, L, hd, h => by
    have h1 := ph_len n (L.erase n) (hd.erase n) (fun x hx => by
      have := (hd.mem_erase_iff).mp hx
      have := h x this.2
      omega)
    have h2 : L.length ≤ (L.erase n).length + 1 := by
      rw [List.length_erase]
      split <;> omega
    omega
theorem heK_ok {s : PS} (ho : PSok s) (p kn : Nat) : ∀ k, k ≤ s.2.1 → ((heK s p kn k).map (·.1)).Nodup ∧ ∀ x ∈ heK s p kn k, x.1 < s.1 ∧ 1 ≤ x.2 ∧ x.2 ≤ 99
  | 0, _ => by simp [heK]
  | k + 1, hk => by
    have ih := heK_ok ho p kn k (by omega)
    have o1 := ho.2.2 k (by omega)
    unfold heK
    split
    next c =>
      have o2 := o1.2.2.2.2.2.1 c.1
      refine ⟨?_, fun x hx => ?_⟩
      · rw [hePut_fst]
        split
        · exact ih.1
        next hq =>
          rw [List.nodup_append]
          refine ⟨ih.1, by simp, fun a ha b hb => ?_⟩
          rw [List.mem_singleton.mp hb]
          exact fun e => hq (e ▸ ha)
      · rcases hePut_mem hx with h | rfl
        · exact ih.2 x h
        · exact ⟨o2.1, o2.2, by have := o1.2.2.2.2.1; exact this⟩
    next => exact ih
theorem heK_len {s : PS} (ho : PSok s) (p kn k : Nat) (hk : k ≤ s.2.1) : (heK s p kn k).length ≤ 60 := by
  have h1 := heK_ok ho p kn k hk
  have h2 := ph_len s.1 _ h1.1 (fun x hx => by
    obtain ⟨y, hy, rfl⟩ := List.mem_map.mp hx
    exact (h1.2 y hy).1)
  rw [List.length_map] at h2
  have := ho.1
  omega
def heRow (L : List (Nat × Nat)) (a b : Nat) (h : kx_Mem) : Prop := ∀ j q, L[j]? = some q → h.1 a j = nI q.1 ∧ h.1 b j = nI q.2
theorem heRow.put {L : List (Nat × Nat)} {a b j q n : Nat} {h : kx_Mem} (hr : heRow L a b h) (hab : a ≠ b) (hn : ∀ i x, i < j → L[i]? = some x → x.1 ≠ q) (hj : (∃ x, L[j]? = some x ∧ x.1 = q) ∨ j = L.length) : heRow (hePut L q n) a b (kx_setI (kx_setI h a j (nI q)) b j (nI n)) ∧ ((∃ x, L[j]? = some x ∧ x.1 = q) → (hePut L q n).length = L.length) ∧ (j = L.length → (hePut L q n).length = L.length + 1) := by
  have e := hePut_eq L q n j hn
  refine ⟨fun i x hx => ?_, fun h1 => by rw [e.1 h1, List.length_set], fun h1 => by rw [e.2 h1]; simp⟩
  have key : (i = j ∧ x = (q, n)) ∨ (i ≠ j ∧ L[i]? = some x) := by
    rcases hj with hj | hj
    · rw [e.1 hj] at hx
      by_cases hij : i = j
      · subst hij
        rw [List.getElem?_set] at hx
        simp only [if_true] at hx
        split at hx
        · left; exact ⟨rfl, (Option.some.inj hx).symm⟩
        · cases hx
      · rw [List.getElem?_set_ne (Ne.symm hij)] at hx
        exact Or.inr ⟨hij, hx⟩
    · rw [e.2 hj] at hx
      by_cases hil : i < L.length
      · rw [List.getElem?_append_left hil] at hx
        exact Or.inr ⟨by omega, hx⟩
      · rw [List.getElem?_append_right (by omega)] at hx
        have : i - L.length < 1 := (List.getElem?_eq_some_iff.mp hx).1
        have hi : i = j := by omega
        rw [show i - L.length = 0 by omega] at hx
        left; exact ⟨hi, (Option.some.inj hx).symm⟩
  have hba : b ≠ a := Ne.symm hab
  rcases key with ⟨rfl, rfl⟩ | ⟨hij, hx⟩
  · simp [kx_setI, kx_up, hab]
  · have := hr i x hx
    simp [kx_setI, kx_up, hab, hba, hij, this]
theorem x_Pe_lh_in {l : Launch} {g : kx_G} {d : Nat} {h0 h : kx_Mem} (hs : SC h) (s : PS) (ho : PSok s) (hp : PSc s h) (p kn r k : Nat) (hr : r < 3) (hkk : k < s.2.1) (L : List (Nat × Nat)) (hLL : L.length ≤ 60) (hL : heRow L (23 + r) (27 + r) h) (hLo : ∀ x ∈ L, x.1 < s.1) (kont : ∀ j, j ≤ L.length → (∀ i x, i < j → L[i]? = some x → x.1 ≠ s.2.2.2.2.2.1 k) → ((∃ x, L[j]? = some x ∧ x.1 = s.2.2.2.2.2.1 k) ∨ j = L.length) → kx_X (l, g, m_Pe_listHeirs, d + 1, 0, 0, (fun v h' => v = some (.int (nI (heF s p kn).length)) ∧ heRow (heF s p kn) (23 + r) (27 + r) h' ∧ kx_Fr [23 + r, 27 + r] h0 h')) 0 0 62 [some (.ref 14), some (.int (nI p)), some (.int (nI kn)), some (.int (nI r)), some (.int (nI L.length)), some (.int (nI k)), some (.int (nI j))] [] h) : ∀ n j, j + n = L.length → (∀ i x, i < j → L[i]? = some x → x.1 ≠ s.2.2.2.2.2.1 k) → kx_X (l, g, m_Pe_listHeirs, d + 1, 0, 0, (fun v h' => v = some (.int (nI (heF s p kn).length)) ∧ heRow (heF s p kn) (23 + r) (27 + r) h' ∧ kx_Fr [23 + r, 27 + r] h0 h')) 0 0 30 [some (.ref 14), some (.int (nI p)), some (.int (nI kn)), some (.int (nI r)), some (.int (nI L.length)), some (.int (nI k)), some (.int (nI j))] [] h := by
  have hrow := rowH hs hr
  obtain ⟨q1, q2, q3, q4, q5⟩ := hp.2.2 k hkk
  have o1 := ho.2.2 k hkk
  have o3 := ho.2.1
  have o2 := ho.1
  intro n
  induction n with
  | zero =>
    intro j hj hn
    refine kx_iload (pc := 30) (kx_dd d_Pe_listHeirs 17 rfl) rfl ?_
    refine kx_iload (pc := 32) (kx_dd d_Pe_listHeirs 18 rfl) rfl ?_
    refine kx_icmp_ge (pc := 34) (tgt := 62) (kx_dd d_Pe_listHeirs 19 rfl) rfl (fun c34 => ?_) (fun c34 => ?_)
    · exact kont j (by omega) hn (Or.inr (by omega))
    · exact absurd (by rw [show j = L.length by omega]; exact Int32.le_refl _) c34
  | succ n ih =>
    intro j hj hn
    obtain ⟨x, hx⟩ : ∃ x, L[j]? = some x := ⟨_, List.getElem?_eq_getElem (by omega)⟩
    have hxx := hL j x hx
    have hxo := hLo x (List.mem_of_getElem? hx)
    refine kx_iload (pc := 30) (kx_dd d_Pe_listHeirs 17 rfl) rfl ?_
    refine kx_iload (pc := 32) (kx_dd d_Pe_listHeirs 18 rfl) rfl ?_
    refine kx_icmp_ge (pc := 34) (tgt := 62) (kx_dd d_Pe_listHeirs 19 rfl) rfl (fun c34 => ?_) (fun c34 => ?_)
    · exact absurd c34 (nI_ge (by omega) (by omega))
    · refine kx_aload_n (pc := 37) (kx_dd d_Pe_listHeirs 20 rfl) rfl rfl ?_
      refine kx_getR (pc := 38) (b := 22) fl_Pe_36 (hs.k 14 rfl) rfl (hs.r 26 rfl) (kx_dd d_Pe_listHeirs 21 rfl) ?_
      refine kx_iload_n (pc := 41) (kx_dd d_Pe_listHeirs 22 rfl) rfl rfl ?_
      refine kx_aldn (pc := 42) (b := (23 + r)) r (hs.t 22 rfl) (by decide) rfl hr (by decide) hrow.1 (kx_dd d_Pe_listHeirs 23 rfl) ?_
      refine kx_iload (pc := 43) (kx_dd d_Pe_listHeirs 24 rfl) rfl ?_
      refine kx_ialdn (pc := 45) j hrow.2.2.1 rfl (by omega) (by decide) (kx_dd d_Pe_listHeirs 25 rfl) ?_
      refine kx_aload_n (pc := 46) (kx_dd d_Pe_listHeirs 26 rfl) rfl rfl ?_
      refine kx_getR (pc := 47) (b := 20) fl_Pe_28 (hs.k 14 rfl) rfl (hs.r 24 rfl) (kx_dd d_Pe_listHeirs 27 rfl) ?_
      refine kx_iload (pc := 50) (kx_dd d_Pe_listHeirs 28 rfl) rfl ?_
      refine kx_ialdn (pc := 52) k (hs.t 20 rfl) rfl (by omega) (by decide) (kx_dd d_Pe_listHeirs 29 rfl) ?_
      refine kx_icmp_eq (pc := 53) (tgt := 62) (kx_dd d_Pe_listHeirs 30 rfl) rfl (fun c53 => ?_) (fun c53 => ?_)
      · rw [hxx.1, q4, nI_eq (by omega) (by omega)] at c53
        exact kont j (by omega) hn (Or.inl ⟨x, hx, c53⟩)
      · refine kx_iinc_e (pc := 56) (v := nI (j + 1)) (lv' := [_, _, _, _, _, _, _]) (kx_dd d_Pe_listHeirs 31 rfl) rfl (Nat.le_of_ble_eq_true rfl) (nI_1 j) rfl ?_
        refine kx_goto (pc := 59) (tgt := 30) (kx_dd d_Pe_listHeirs 32 rfl) rfl ?_
        rw [hxx.1, q4, nI_eq (by omega) (by omega)] at c53
        exact ih (j + 1) (by omega) (fun i y hi hy => by
          rcases Nat.lt_succ_iff_lt_or_eq.mp hi with h1 | rfl
          · exact hn i y h1 hy
          · rw [hx] at hy; cases hy; exact c53)
theorem x_Pe_listHeirs_loop {l : Launch} {g : kx_G} {d : Nat} {h : kx_Mem} (hs : SC h) (s : PS) (ho : PSok s) (hp : PSc s h) (p kn r : Nat) (hpp : p < 2 ^ 31) (hkn : kn < 2 ^ 31) (hr : r < 3) : ∀ n k, k + n = s.2.1 → ∀ w6 h1, kx_Fr [23 + r, 27 + r] h h1 → heRow (heK s p kn k) (23 + r) (27 + r) h1 → kx_X (l, g, m_Pe_listHeirs, d + 1, 0, 0, (fun v h' => v = some (.int (nI (heF s p kn).length)) ∧ heRow (heF s p kn) (23 + r) (27 + r) h' ∧ kx_Fr [23 + r, 27 + r] h h')) 0 0 6 [some (.ref 14), some (.int (nI p)), some (.int (nI kn)), some (.int (nI r)), some (.int (nI (heK s p kn k).length)), some (.int (nI k)), w6] [] (h1) := by
  intro n
  induction n with
  | zero =>
    intro k hk w6 h1 hf hrw
    have hk0 : k = s.2.1 := by omega
    subst hk0
    have hs := hs.fr hf
    have hp := hp.fr hf (by intro a ha; simp at ha ⊢; omega)
    refine kx_iload (pc := 6) (kx_dd d_Pe_listHeirs 4 rfl) rfl ?_
    refine kx_aload_n (pc := 8) (kx_dd d_Pe_listHeirs 5 rfl) rfl rfl ?_
    refine kx_getI (pc := 9) fl_Pe_46 (hs.k 14 rfl) rfl (kx_dd d_Pe_listHeirs 6 rfl) ?_
    refine kx_icmp_ge (pc := 12) (tgt := 118) (kx_dd d_Pe_listHeirs 7 rfl) rfl (fun c12 => ?_) (fun c12 => ?_)
    · refine kx_iload (pc := 118) (kx_dd d_Pe_listHeirs 64 rfl) rfl ?_
      refine kx_iret (pc := 120) rfl (kx_dd d_Pe_listHeirs 65 rfl) (Nat.le_refl _) (Nat.le_refl _) ?_
      exact ⟨rfl, hrw, hf⟩
    · exact absurd (by rw [hp.2.1]; exact Int32.le_refl _) c12
  | succ n ih =>
    intro k hk w6 h1 hf hrw
    have hs := hs.fr hf
    have hp := hp.fr hf (by intro a ha; simp at ha ⊢; omega)
    have hrow := rowH hs hr
    obtain ⟨q1, q2, q3, q4, q5⟩ := hp.2.2 k (by omega)
    have o1 := ho.2.2 k (by omega)
    have o2 := ho.1
    have o3 := ho.2.1
    have o4 := heK_len ho p kn k (by omega)
    have o5 := heK_ok ho p kn k (by omega)
    refine kx_iload (pc := 6) (kx_dd d_Pe_listHeirs 4 rfl) rfl ?_
    refine kx_aload_n (pc := 8) (kx_dd d_Pe_listHeirs 5 rfl) rfl rfl ?_
    refine kx_getI (pc := 9) fl_Pe_46 (hs.k 14 rfl) rfl (kx_dd d_Pe_listHeirs 6 rfl) ?_
    refine kx_icmp_ge (pc := 12) (tgt := 118) (kx_dd d_Pe_listHeirs 7 rfl) rfl (fun c12 => ?_) (fun c12 => ?_)
    · exact absurd c12 (by rw [hp.2.1]; exact nI_ge (by omega) (by omega))
    · refine kx_aload_n (pc := 15) (kx_dd d_Pe_listHeirs 8 rfl) rfl rfl ?_
      refine kx_iload (pc := 16) (kx_dd d_Pe_listHeirs 9 rfl) rfl ?_
      refine kx_iconst (pc := 18) (v := 2) (kx_dd d_Pe_listHeirs 10 rfl) rfl ?_
      refine kx_iload_n (pc := 19) (kx_dd d_Pe_listHeirs 11 rfl) rfl rfl ?_
      refine kx_iload_n (pc := 20) (kx_dd d_Pe_listHeirs 12 rfl) rfl rfl ?_
      refine kx_invV (pc := 21) (a := 14) (as := [_, _, _, _]) (kx_dd d_Pe_listHeirs 13 rfl) ⟨lk_Pe_49, wi_Pe_isTold, we_Pe_isTold⟩ w_Pe_isTold (hs.k 14 rfl) rfl rfl rfl rfl (by decide) (x_Pe_isTold (d := d) hs s ho hp k 2 p kn (by omega) (by decide) hpp hkn) (Nat.le_refl _) ⟨Nat.le_refl _, Nat.le_refl _⟩ (fun v h' hq => ?_)
      obtain ⟨rfl, he⟩ := hq
      rw [he]
      clear he
      refine kx_if_eq (pc := 24) (tgt := 112) (kx_dd d_Pe_listHeirs 14 rfl) rfl (fun c24 => ?_) (fun c24 => ?_)
      · refine kx_iinc_e (pc := 112) (v := nI (k + 1)) (lv' := [_, _, _, _, _, _, _]) (kx_dd d_Pe_listHeirs 62 rfl) rfl (Nat.le_of_ble_eq_true rfl) (nI_1 k) rfl ?_
        refine kx_goto (pc := 115) (tgt := 6) (kx_dd d_Pe_listHeirs 63 rfl) rfl ?_
        simp (disch := omega) only [bP_0, bP_1, nI_eq, nI_ltI, nI_leI, nI_lt_p] at c24
        have e1 : heK s p kn (k + 1) = heK s p kn k := if_neg c24
        have ih1 := ih (k + 1) (by omega) w6 h1 hf (by rw [e1]; exact hrw)
        rw [e1] at ih1
        exact ih1
      · refine kx_iconst (pc := 27) (v := 0) (kx_dd d_Pe_listHeirs 15 rfl) rfl ?_
        refine kx_istore_e (pc := 28) (lv' := [_, _, _, _, _, _, _]) (kx_dd d_Pe_listHeirs 16 rfl) (Nat.le_of_ble_eq_true rfl) rfl ?_
        simp (disch := omega) only [bP_0, bP_1, nI_eq, nI_ltI, nI_leI, nI_lt_p] at c24
        refine x_Pe_lh_in (h0 := h) hs s ho hp p kn r k hr (by omega) (heK s p kn k) o4 hrw (fun x hx => (o5.2 x hx).1) (fun j hj hn hj2 => ?_) (heK s p kn k).length 0 (by omega) (fun i x hi => absurd hi (Nat.not_lt_zero i))
        have hj60 : j < 60 := by
          rcases hj2 with ⟨x, hx, -⟩ | hj2
          · have := (List.getElem?_eq_some_iff.mp hx).1; omega
          · have h2 := ph_len s.1 ((heK s p kn (k + 1)).map (·.1)) (heK_ok ho p kn (k + 1) (by omega)).1 (fun x hx => by obtain ⟨y, hy, rfl⟩ := List.mem_map.mp hx; exact ((heK_ok ho p kn (k + 1) (by omega)).2 y hy).1)
            rw [show heK s p kn (k + 1) = hePut (heK s p kn k) (s.2.2.2.2.2.1 k) (s.2.2.2.2.2.2 k) from if_pos (Classical.not_not.mp c24), List.length_map, (hePut_eq _ _ _ j hn).2 hj2] at h2
            simp at h2
            omega
        refine kx_iload (pc := 62) (kx_dd d_Pe_listHeirs 33 rfl) rfl ?_
        refine kx_bipush (pc := 64) (v := 60) (kx_dd d_Pe_listHeirs 34 rfl) rfl ?_
        refine kx_icmp_ge (pc := 66) (tgt := 112) (kx_dd d_Pe_listHeirs 35 rfl) rfl (fun c66 => ?_) (fun c66 => ?_)
        · exact absurd c66 (by exact nI_ge (b := 60) hj60 (by decide))
        · refine kx_aload_n (pc := 69) (kx_dd d_Pe_listHeirs 36 rfl) rfl rfl ?_
          refine kx_getR (pc := 70) (b := 22) fl_Pe_36 (hs.k 14 rfl) rfl (hs.r 26 rfl) (kx_dd d_Pe_listHeirs 37 rfl) ?_
          refine kx_iload_n (pc := 73) (kx_dd d_Pe_listHeirs 38 rfl) rfl rfl ?_
          refine kx_aldn (pc := 74) (b := (23 + r)) r (hs.t 22 rfl) (by decide) rfl hr (by decide) hrow.1 (kx_dd d_Pe_listHeirs 39 rfl) ?_
          refine kx_iload (pc := 75) (kx_dd d_Pe_listHeirs 40 rfl) rfl ?_
          refine kx_aload_n (pc := 77) (kx_dd d_Pe_listHeirs 41 rfl) rfl rfl ?_
          refine kx_getR (pc := 78) (b := 20) fl_Pe_28 (hs.k 14 rfl) rfl (hs.r 24 rfl) (kx_dd d_Pe_listHeirs 42 rfl) ?_
          refine kx_iload (pc := 81) (kx_dd d_Pe_listHeirs 43 rfl) rfl ?_
          refine kx_ialdn (pc := 83) k (hs.t 20 rfl) rfl (by omega) (by decide) (kx_dd d_Pe_listHeirs 44 rfl) ?_
          refine kx_iastn (pc := 84) j hrow.2.2.1 (by omega) rfl hj60 (by decide) (kx_dd d_Pe_listHeirs 45 rfl) ?_
          refine kx_aload_n (pc := 85) (kx_dd d_Pe_listHeirs 46 rfl) rfl rfl ?_
          refine kx_getR (pc := 86) (b := 26) fl_Pe_39 (hs.k 14 rfl) rfl (hs.r 27 rfl) (kx_dd d_Pe_listHeirs 47 rfl) ?_
          refine kx_iload_n (pc := 89) (kx_dd d_Pe_listHeirs 48 rfl) rfl rfl ?_
          refine kx_aldn (pc := 90) (b := (27 + r)) r (hs.t 26 rfl) (by decide) rfl hr (by decide) hrow.2.1 (kx_dd d_Pe_listHeirs 49 rfl) ?_
          refine kx_iload (pc := 91) (kx_dd d_Pe_listHeirs 50 rfl) rfl ?_
          refine kx_aload_n (pc := 93) (kx_dd d_Pe_listHeirs 51 rfl) rfl rfl ?_
          refine kx_getR (pc := 94) (b := 21) fl_Pe_31 (hs.k 14 rfl) rfl (hs.r 25 rfl) (kx_dd d_Pe_listHeirs 52 rfl) ?_
          refine kx_iload (pc := 97) (kx_dd d_Pe_listHeirs 53 rfl) rfl ?_
          refine kx_ialdn (pc := 99) k (hs.t 21 rfl) rfl (by omega) (by decide) (kx_dd d_Pe_listHeirs 54 rfl) ?_
          refine kx_iastn (pc := 100) j hrow.2.2.2 (by omega) rfl hj60 (by decide) (kx_dd d_Pe_listHeirs 55 rfl) ?_
          refine kx_iload (pc := 101) (kx_dd d_Pe_listHeirs 56 rfl) rfl ?_
          refine kx_iload (pc := 103) (kx_dd d_Pe_listHeirs 57 rfl) rfl ?_
          refine kx_iconst (pc := 105) (v := 1) (kx_dd d_Pe_listHeirs 58 rfl) rfl ?_
          refine kx_iadd (pc := 106) (kx_dd d_Pe_listHeirs 59 rfl) ?_
          refine kx_mmax (pc := 107) mk_Pe_60 (kx_dd d_Pe_listHeirs 60 rfl) (Nat.le_of_ble_eq_true rfl) (by decide) (Nat.le_refl _) (Nat.le_refl _) ?_
          refine kx_istore_e (pc := 110) (lv' := [_, _, _, _, _, _, _]) (kx_dd d_Pe_listHeirs 61 rfl) (Nat.le_of_ble_eq_true rfl) rfl ?_
          refine kx_iinc_e (pc := 112) (v := nI (k + 1)) (lv' := [_, _, _, _, _, _, _]) (kx_dd d_Pe_listHeirs 62 rfl) rfl (Nat.le_of_ble_eq_true rfl) (nI_1 k) rfl ?_
          refine kx_goto (pc := 115) (tgt := 6) (kx_dd d_Pe_listHeirs 63 rfl) rfl ?_
          have hP := hrw.put (n := s.2.2.2.2.2.2 k) (show 23 + r ≠ 27 + r by omega) hn hj2
          have e1 : heK s p kn (k + 1) = hePut (heK s p kn k) (s.2.2.2.2.2.1 k) (s.2.2.2.2.2.2 k) := if_pos (Classical.not_not.mp c24)
          have e3 : (kx_setI h1 (23 + r) j (h1.1 20 k)).1 21 k = nI (s.2.2.2.2.2.2 k) := by rw [← q5]; exact kx_up_ne (by omega)
          rw [e3, q4]
          have e2 : (if nI (heK s p kn k).length < nI j + 1 then nI j + 1 else nI (heK s p kn k).length) = nI (hePut (heK s p kn k) (s.2.2.2.2.2.1 k) (s.2.2.2.2.2.2 k)).length := by
            rcases hj2 with hj2 | hj2
            · have hlt : j < (heK s p kn k).length := by obtain ⟨x, hx, -⟩ := hj2; exact (List.getElem?_eq_some_iff.mp hx).1
              rw [hP.2.1 hj2, nI_1, if_neg (nI_nlt (by omega) (by omega))]
            · rw [hP.2.2 hj2, nI_1, if_pos (nI_lt (by omega) (by omega)), hj2]
          rw [e2]
          have ih1 := ih (k + 1) (by omega) (some (.int (nI j))) _ ((hf.tr (kx_Fr.set (a := 23 + r) (j := j) (v := nI (s.2.2.2.2.2.1 k)) (by simp))).tr (kx_Fr.set (a := 27 + r) (j := j) (v := nI (s.2.2.2.2.2.2 k)) (by simp))) (by rw [e1]; exact hP.1)
          rw [e1] at ih1
          exact ih1
theorem x_Pe_listHeirs {l : Launch} {g : kx_G} {d : Nat} {h : kx_Mem} (hs : SC h) (s : PS) (ho : PSok s) (hp : PSc s h) (p kn r : Nat) (hpp : p < 2 ^ 31) (hkn : kn < 2 ^ 31) (hr : r < 3) : kx_Sp l g m_Pe_listHeirs [.ref 14, .int (nI p), .int (nI kn), .int (nI r)] h (d + 1) 0 0 (fun v h' => v = some (.int (nI (heF s p kn).length)) ∧ heRow (heF s p kn) (23 + r) (27 + r) h' ∧ kx_Fr [23 + r, 27 + r] h h') := by
  refine kx_enter_e (lv := [_, _, _, _, _, _, _]) (by decide +kernel) (Nat.le_of_ble_eq_true rfl) rfl ?_
  refine kx_iconst (pc := 0) (v := 0) (kx_dd d_Pe_listHeirs 0 rfl) rfl ?_
  refine kx_istore_e (pc := 1) (lv' := [_, _, _, _, _, _, _]) (kx_dd d_Pe_listHeirs 1 rfl) (Nat.le_of_ble_eq_true rfl) rfl ?_
  refine kx_iconst (pc := 3) (v := 0) (kx_dd d_Pe_listHeirs 2 rfl) rfl ?_
  refine kx_istore_e (pc := 4) (lv' := [_, _, _, _, _, _, _]) (kx_dd d_Pe_listHeirs 3 rfl) (Nat.le_of_ble_eq_true rfl) rfl ?_
  exact x_Pe_listHeirs_loop hs s ho hp p kn r hpp hkn hr s.2.1 0 (by omega) none h kx_Fr.rf (fun j q hj => by simp [heK] at hj)
