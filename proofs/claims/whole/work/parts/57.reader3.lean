/-! the class: RulesReader, weigh, order, begins -/
theorem x_Re_readWeigh {l : Launch} {g : kx_G} {d : Nat} {h : kx_Mem} (a : Nat) (b : Nat → Int32) (n i : Nat) (r : RU) (hR : RD a b n i r h) : kx_Sp l g m_Re_readWeigh [.ref 3] h (d + 4) 0 0 (fun v h' => PoD a b n h v h' (wgF b n i r)) := by
  have hs := hR.1
  have hd := hR.2.2.2.2.1
  have ha := hR.2.2.2.2.2.1
  have hg := ha.g
  have hr := IsRu.of hs ha
  have hin := hR.2.2.1
  have ho := hR.2.2.2.2.2.2.1
  have oa := hr.2.2.2.2.2.2.2.2.2.2.2.2.2.2.2.2.2
  have o16 := ho.1
  refine kx_enter_e (lv := [_, _]) (by decide +kernel) (Nat.le_of_ble_eq_true rfl) rfl ?_
  refine kx_aload_n (pc := 0) (kx_dd d_Re_readWeigh 0 rfl) rfl rfl ?_
  refine kx_invV (pc := 1) (a := 3) (as := []) (kx_dd d_Re_readWeigh 1 rfl) ⟨lk_Re_127, wi_Re_readWord, we_Re_readWord⟩ w_Re_readWord (hs.k 3 rfl) rfl rfl rfl rfl (Nat.le_of_ble_eq_true rfl) (x_Re_readWord (d := d) a b n i r hR) (Nat.le_refl _) ⟨Nat.le_refl _, Nat.le_refl _⟩ (fun v h' hq => ?_)
  revert h'
  intro h1 hq
  obtain ⟨hF1, hqa, hqb⟩ := hq
  by_cases hw1 : tK b n i = 1
  · skip
    obtain ⟨rfl, hR1, hwd, hpl⟩ := hqa hw1
    have hw9 := tW_lt hR.2.2.1 hw1
    have hs := hR1.1
    have hd := hR1.2.2.2.2.1
    have hr := IsRu.of hs hR1.2.2.2.2.2.1
    refine kx_if_ne (pc := 4) (tgt := 9) (kx_dd d_Re_readWeigh 2 rfl) rfl (fun c4 => ?_) (fun c4 => ?_)
    · refine kx_aload_n (pc := 9) (kx_dd d_Re_readWeigh 5 rfl) rfl rfl ?_
      refine kx_getR (pc := 10) (b := a) fl_Re_12 (hs.k 3 rfl) rfl hd (kx_dd d_Re_readWeigh 6 rfl) ?_
      refine kx_aload_n (pc := 13) (kx_dd d_Re_readWeigh 7 rfl) rfl rfl ?_
      refine kx_getR (pc := 14) (b := 1) fl_Re_22 (hs.k 3 rfl) rfl (hs.r 10 rfl) (kx_dd d_Re_readWeigh 8 rfl) ?_
      refine kx_getL (pc := 17) fl_Re_130 (hs.k 1 rfl) rfl (kx_dd d_Re_readWeigh 9 rfl) ?_
      rw [hwd]
      refine kx_invV (pc := 20) (a := a) (as := [_]) (kx_dd d_Re_readWeigh 10 rfl) ⟨lk_Re_134, wi_Ru_isWeighed, we_Ru_isWeighed⟩ w_Ru_isWeighed (congrArg Prod.fst hr.1) rfl rfl rfl rfl (Nat.le_of_ble_eq_true rfl) (x_Ru_isWeighed (d := d + 2) a hr r ho hR1.2.2.2.2.2.2.2.1 (tW b n i) hw9.2) (Nat.le_refl _) ⟨Nat.le_refl _, Nat.le_refl _⟩ (fun v h' hq => ?_)
      obtain ⟨rfl, he⟩ := hq
      rw [he]
      clear he
      refine kx_if_eq (pc := 23) (tgt := 32) (kx_dd d_Re_readWeigh 11 rfl) rfl (fun c23 => ?_) (fun c23 => ?_)
      · refine kx_aload_n (pc := 32) (kx_dd d_Re_readWeigh 16 rfl) rfl rfl ?_
        refine kx_getR (pc := 33) (b := a) fl_Re_12 (hs.k 3 rfl) rfl hd (kx_dd d_Re_readWeigh 17 rfl) ?_
        refine kx_aload_n (pc := 36) (kx_dd d_Re_readWeigh 18 rfl) rfl rfl ?_
        refine kx_getR (pc := 37) (b := 1) fl_Re_22 (hs.k 3 rfl) rfl (hs.r 10 rfl) (kx_dd d_Re_readWeigh 19 rfl) ?_
        refine kx_getL (pc := 40) fl_Re_130 (hs.k 1 rfl) rfl (kx_dd d_Re_readWeigh 20 rfl) ?_
        rw [hwd]
        refine kx_invV (pc := 43) (a := a) (as := [_]) (kx_dd d_Re_readWeigh 21 rfl) ⟨lk_Re_138, wi_Ru_kindFor, we_Ru_kindFor⟩ w_Ru_kindFor (congrArg Prod.fst hr.1) rfl rfl rfl rfl (Nat.le_of_ble_eq_true rfl) (x_Ru_kindFor (d := d + 2) a hr r ho hR1.2.2.2.2.2.2.2.1 (tW b n i) hw9.2) (Nat.le_refl _) ⟨Nat.le_refl _, Nat.le_refl _⟩ (fun v h' hq => ?_)
        revert h'
        intro h2 hq
        obtain ⟨x, rfl⟩ : ∃ x : Int32, v = some (.int x) := by rcases hq with z | z; exact ⟨_, z.1⟩; exact ⟨_, z.2.2.1⟩
        have hkk := x_Re_kind2 a b n i r hR h1 hR1 hF1 hw1 hpl x h2 hq
        have hs : SC h2 := by rcases hq with z | z; rw [z.2.1]; exact hs; rw [z.2.2.2]; exact hs
        refine kx_istore_ne (pc := 46) (lv' := [_, _]) (kx_dd d_Re_readWeigh 22 rfl) rfl (Nat.le_of_ble_eq_true rfl) rfl ?_
        refine kx_iload_n (pc := 47) (kx_dd d_Re_readWeigh 23 rfl) rfl rfl ?_
        refine kx_iconst (pc := 48) (v := -1) (kx_dd d_Re_readWeigh 24 rfl) rfl ?_
        refine kx_icmp_ne (pc := 49) (tgt := 58) (kx_dd d_Re_readWeigh 25 rfl) rfl (fun c49 => ?_) (fun c49 => ?_)
        · obtain ⟨q8, e8, e7, e6, e5, e4⟩ := hkk.2 c49
          have hs := e6.1
          have hd := e6.2.2.2.2.1
          have hr := IsRu.of hs e6.2.2.2.2.2.1
          refine kx_aload_n (pc := 58) (kx_dd d_Re_readWeigh 30 rfl) rfl rfl ?_
          refine kx_iconst (pc := 59) (v := 1) (kx_dd d_Re_readWeigh 31 rfl) rfl ?_
          refine kx_bipush (pc := 60) (v := 99) (kx_dd d_Re_readWeigh 32 rfl) rfl ?_
          refine kx_invV (pc := 62) (a := 3) (as := [_, _]) (kx_dd d_Re_readWeigh 33 rfl) ⟨lk_Re_111, wi_Re_readNumber, we_Re_readNumber⟩ w_Re_readNumber (hs.k 3 rfl) rfl rfl rfl rfl (Nat.le_of_ble_eq_true rfl) (x_Re_readNumber (d := d) a b n q8.2.2 q8.2.1 e6 1 99 (by omega) (by omega)) (Nat.le_refl _) ⟨Nat.le_refl _, Nat.le_refl _⟩ (fun v h' hq => ?_)
          revert h'
          intro h3 hq
          obtain ⟨hF3, hq⟩ := hq
          cases hN : numF b n q8.2.2 1 99 with
          | inl f =>
            rw [hN] at hq
            obtain ⟨rfl, hfa⟩ := hq
            refine kx_if_ne (pc := 65) (tgt := 70) (kx_dd d_Re_readWeigh 34 rfl) rfl (fun c65 => ?_) (fun c65 => ?_)
            · exact absurd rfl c65
            · refine kx_iconst (pc := 68) (v := 0) (kx_dd d_Re_readWeigh 35 rfl) rfl ?_
              refine kx_zret (pc := 69) rfl rfl (kx_dd d_Re_readWeigh 36 rfl) (Nat.le_refl _) (Nat.le_refl _) ?_
              rw [bP_0] at c23
              have ewg : wgF b n i r = (match kdF b n i r with
                | .inl f => .inl f
                | .inr q => match numF b n q.2.2 1 99 with
                  | .inl f => .inl f
                  | .inr z => .inr (ruWei q.2.1 q.1 z.1, z.2)) := if_neg (fun z => c23 z.2)
              refine ⟨(hF1.tr e4).tr hF3, ?_⟩
              rw [ewg, e8]
              simp only [hN]
              exact ⟨trivial, hfa⟩
          | inr q9 =>
            rw [hN] at hq
            obtain ⟨rfl, hR3, hx5⟩ := hq
            have hs := hR3.1
            have hd := hR3.2.2.2.2.1
            have hr := IsRu.of hs hR3.2.2.2.2.2.1
            refine kx_if_ne (pc := 65) (tgt := 70) (kx_dd d_Re_readWeigh 34 rfl) rfl (fun c65 => ?_) (fun c65 => ?_)
            · refine kx_aload_n (pc := 70) (kx_dd d_Re_readWeigh 37 rfl) rfl rfl ?_
              refine kx_getR (pc := 71) (b := a) fl_Re_12 (hs.k 3 rfl) rfl hd (kx_dd d_Re_readWeigh 38 rfl) ?_
              refine kx_iload_n (pc := 74) (kx_dd d_Re_readWeigh 39 rfl) rfl rfl ?_
              refine kx_aload_n (pc := 75) (kx_dd d_Re_readWeigh 40 rfl) rfl rfl ?_
              refine kx_getR (pc := 76) (b := 1) fl_Re_22 (hs.k 3 rfl) rfl (hs.r 10 rfl) (kx_dd d_Re_readWeigh 41 rfl) ?_
              refine kx_getI (pc := 79) fl_Re_115 (hs.k 1 rfl) rfl (kx_dd d_Re_readWeigh 42 rfl) ?_
              rw [hx5, e7]
              refine kx_invV (pc := 82) (a := a) (as := [_, _]) (kx_dd d_Re_readWeigh 43 rfl) ⟨lk_Re_142, wi_Ru_weigh, we_Ru_weigh⟩ w_Ru_weigh (congrArg Prod.fst hr.1) rfl rfl rfl rfl (Nat.le_of_ble_eq_true rfl) (x_Ru_weigh (d := d + 3) a hr q8.2.1 e6.2.2.2.2.2.2.1 hR3.2.2.2.2.2.2.2.1 q8.1 e5 (nI q9.1)) (Nat.le_refl _) ⟨Nat.le_refl _, Nat.le_refl _⟩ (fun v h' hq => ?_)
              revert h'
              intro h4 hq
              obtain ⟨rfl, rfl⟩ := hq
              refine kx_iconst (pc := 85) (v := 1) (kx_dd d_Re_readWeigh 44 rfl) rfl ?_
              refine kx_zret (pc := 86) rfl rfl (kx_dd d_Re_readWeigh 45 rfl) (Nat.le_refl _) (Nat.le_refl _) ?_
              rw [bP_0] at c23
              have ewg : wgF b n i r = (match kdF b n i r with
                | .inl f => .inl f
                | .inr q => match numF b n q.2.2 1 99 with
                  | .inl f => .inl f
                  | .inr z => .inr (ruWei q.2.1 q.1 z.1, z.2)) := if_neg (fun z => c23 z.2)
              have hx9 : q9.1 ≤ 99 := by
                have := hN
                unfold numF at this
                split at this
                · split at this
                  next z => cases this; exact z.2
                  · cases this
                · cases this
              obtain ⟨hR4, hF4⟩ := hR3.put (r' := ruWei q8.2.1 q8.1 q9.1) (kx_Fg.setI ⟨by omega, by omega⟩) (e6.2.2.2.2.2.2.1.wei hx9) hR3.2.2.2.2.2.2.2.1.wei
              refine ⟨((hF1.tr e4).tr hF3).tr hF4, ?_⟩
              rw [ewg, e8]
              simp only [hN]
              exact ⟨trivial, hR4⟩
            · exact absurd c65 (by decide)
        · refine kx_aload_n (pc := 52) (kx_dd d_Re_readWeigh 26 rfl) rfl rfl ?_
          refine kx_iconst (pc := 53) (v := 4) (kx_dd d_Re_readWeigh 27 rfl) rfl ?_
          refine kx_invV (pc := 54) (a := 3) (as := [_]) (kx_dd d_Re_readWeigh 28 rfl) ⟨lk_Re_63, wi_Re_refuse, we_Re_refuse⟩ w_Re_refuse (hs.k 3 rfl) rfl rfl rfl rfl (Nat.le_of_ble_eq_true rfl) (x_Re_refuse (d := d + 3) hs (nI 4)) (Nat.le_refl _) ⟨Nat.le_refl _, Nat.le_refl _⟩ (fun v h' hq => ?_)
          revert h'
          intro h9 hq
          obtain ⟨rfl, rfl⟩ := hq
          refine kx_zret (pc := 57) rfl rfl (kx_dd d_Re_readWeigh 29 rfl) (Nat.le_refl _) (Nat.le_refl _) ?_
          rw [bP_0] at c23
          have ewg : wgF b n i r = (match kdF b n i r with
            | .inl f => .inl f
            | .inr q => match numF b n q.2.2 1 99 with
              | .inl f => .inl f
              | .inr z => .inr (ruWei q.2.1 q.1 z.1, z.2)) := if_neg (fun z => c23 z.2)
          obtain ⟨e8, rfl⟩ := hkk.1 c49
          refine ⟨RD.fault hF1, ?_⟩
          rw [ewg, e8]
          exact ⟨rfl, FaQ.of (k := 4) hpl⟩
      · refine kx_aload_n (pc := 26) (kx_dd d_Re_readWeigh 12 rfl) rfl rfl ?_
        refine kx_iconst (pc := 27) (v := 3) (kx_dd d_Re_readWeigh 13 rfl) rfl ?_
        refine kx_invV (pc := 28) (a := 3) (as := [_]) (kx_dd d_Re_readWeigh 14 rfl) ⟨lk_Re_63, wi_Re_refuse, we_Re_refuse⟩ w_Re_refuse (hs.k 3 rfl) rfl rfl rfl rfl (Nat.le_of_ble_eq_true rfl) (x_Re_refuse (d := d + 3) hs (nI 3)) (Nat.le_refl _) ⟨Nat.le_refl _, Nat.le_refl _⟩ (fun v h' hq => ?_)
        revert h'
        intro h9 hq
        obtain ⟨rfl, rfl⟩ := hq
        refine kx_zret (pc := 31) rfl rfl (kx_dd d_Re_readWeigh 15 rfl) (Nat.le_refl _) (Nat.le_refl _) ?_
        rw [bP_0, Classical.not_not] at c23
        refine ⟨RD.fault hF1, ?_⟩
        unfold wgF
        rw [if_pos ⟨hw1, c23⟩]
        exact ⟨rfl, FaQ.of (k := 3) hpl⟩
    · exact absurd c4 (by decide)
  · skip
    obtain ⟨rfl, hfa⟩ := hqb hw1
    refine kx_if_ne (pc := 4) (tgt := 9) (kx_dd d_Re_readWeigh 2 rfl) rfl (fun c4 => ?_) (fun c4 => ?_)
    · exact absurd rfl c4
    · refine kx_iconst (pc := 7) (v := 0) (kx_dd d_Re_readWeigh 3 rfl) rfl ?_
      refine kx_zret (pc := 8) rfl rfl (kx_dd d_Re_readWeigh 4 rfl) (Nat.le_refl _) (Nat.le_refl _) ?_
      refine ⟨hF1, ?_⟩
      unfold wgF
      rw [if_neg (fun z => hw1 z.1)]
      rw [show kdF b n i r = .inl (1, tP b n i) from if_neg hw1]
      exact ⟨rfl, hfa⟩
theorem seen_fold (L : List Nat) : ∀ s, (L.foldl (fun s x => s ||| 2 ^ x) s) = s ||| (L.foldl (fun s x => s ||| 2 ^ x) 0) := by
  induction L with
  | nil => intro s; simp
  | cons x L ih =>
    intro s
    simp only [List.foldl_cons]
    rw [ih (s ||| 2 ^ x), ih (0 ||| 2 ^ x), Nat.zero_or, Nat.or_assoc]
def seenN (L : List Nat) : Nat := L.foldl (fun s x => s ||| 2 ^ x) 0
theorem seenN_snoc (L : List Nat) (q : Nat) : seenN (L ++ [q]) = seenN L ||| 2 ^ q := by
  unfold seenN
  rw [List.foldl_append]
  rfl
theorem seenN_cons (L : List Nat) (q : Nat) : seenN (q :: L) = 2 ^ q ||| seenN L := by
  unfold seenN
  rw [List.foldl_cons, seen_fold, Nat.zero_or]
theorem seenN_bit (L : List Nat) (q : Nat) : (seenN L).testBit q = decide (q ∈ L) := by
  induction L with
  | nil => simp [seenN]
  | cons x L ih =>
    rw [seenN_cons, Nat.testBit_or, ih, Nat.testBit_two_pow]
    by_cases e : x = q
    · simp [e]
    · have : ¬ q = x := fun z => e z.symm
      simp [e, this]
theorem seenN_lt (L : List Nat) (h : ∀ x ∈ L, x < 4) : seenN L < 2 ^ 4 := by
  induction L with
  | nil => decide
  | cons x L ih =>
    rw [seenN_cons]
    exact Nat.or_lt_two_pow (Nat.pow_lt_pow_right (by decide) (h x (by simp))) (ih (fun y hy => h y (by simp [hy])))
theorem seenN_b {L : List Nat} {q : Nat} : bitN (seenN L) q = 0 ↔ q ∉ L := by
  have := seenN_bit L q
  rw [Nat.testBit_eq_decide_div_mod_eq] at this
  have e : (seenN L / 2 ^ q % 2 = 1) ↔ q ∈ L := by simpa using this
  unfold bitN
  constructor
  · intro z y
    rw [← e] at y
    omega
  · intro z
    rw [← e] at z
    omega
theorem nodupN : ∀ (m : Nat) (L : List Nat), (∀ x ∈ L, x < m) → L.Nodup → L.length ≤ m
  | 0, L, hL, _ => by
    cases L with
    | nil => simp
    | cons x L => exact absurd (hL x (by simp)) (Nat.not_lt_zero x)
  | m + 1, L, hL, hd => by
    by_cases hm : m ∈ L
    · have h1 := nodupN m (L.erase m) (fun x hx => by
        have h2 := (hd.mem_erase_iff.mp hx)
        have := hL x h2.2
        have := h2.1
        omega) (hd.erase m)
      rw [List.length_erase_of_mem hm] at h1
      omega
    · have := nodupN m L (fun x hx => by
        have := hL x hx
        have : x ≠ m := fun z => hm (z ▸ hx)
        omega) hd
      omega
theorem nodup4 {L : List Nat} (hL : ∀ x ∈ L, x < 4) (hd : L.Nodup) : L.length ≤ 4 := nodupN 4 L hL hd
theorem x_Re_ord {l : Launch} {g : kx_G} {d : Nat} {h0 : kx_Mem} (a : Nat) (b : Nat → Int32) (n : Nat) (r : RU) (R9 : Fa ⊕ (List Nat × Nat)) : ∀ f i L, L.length + f = 5 → (∀ x ∈ L, x < 4) → L.Nodup → ordK b n f i L = R9 → ∀ h w3, RD a b n i (ruOrd r (finO L)) h → kx_Fd a h0 h → kx_X (l, g, m_Re_readOrder, d + 6, 0, 0, (fun v h' => PoD a b n h0 v h' (match R9 with | .inl f => .inl f | .inr q => .inr (ruOrd r (finO q.1), q.2)))) 0 0 4 [some (.ref 3), some (.int (nI (seenN L))), some (.int (nI L.length)), w3] [] h := by
  intro f
  induction f with
  | zero =>
    intro i L hl hL hd0 he h w3 hR hf
    exfalso
    have h4 : L.length ≤ 4 := nodup4 hL hd0
    omega
  | succ f ih =>
    intro i L hl hL hd0 he h w3 hR hf
    have hlen : L.length ≤ 4 := nodup4 hL hd0
    have hsl := seenN_lt L hL
    unfold ordK at he
    have hs := hR.1
    have hd := hR.2.2.2.2.1
    have ha := hR.2.2.2.2.2.1
    have hg := ha.g
    have hr := IsRu.of hs ha
    have hin := hR.2.2.1
    have ho := hR.2.2.2.2.2.2.1
    have oa := hr.2.2.2.2.2.2.2.2.2.2.2.2.2.2.2.2.2
    have o16 := ho.1
    refine kx_iload_n (pc := 4) (kx_dd d_Re_readOrder 4 rfl) rfl rfl ?_
    refine kx_iconst (pc := 5) (v := 4) (kx_dd d_Re_readOrder 5 rfl) rfl ?_
    refine kx_icmp_gt (pc := 6) (tgt := 89) (kx_dd d_Re_readOrder 6 rfl) rfl (fun c6 => ?_) (fun c6 => ?_)
    · exact absurd c6 (by rw [show (4 : Int32) = nI 4 from rfl, nI_ltI (by decide) (by omega)]; omega)
    · refine kx_aload_n (pc := 9) (kx_dd d_Re_readOrder 7 rfl) rfl rfl ?_
      refine kx_getR (pc := 10) (b := 1) fl_Re_22 (hs.k 3 rfl) rfl (hs.r 10 rfl) (kx_dd d_Re_readOrder 8 rfl) ?_
      refine kx_invV (pc := 13) (a := 1) (as := []) (kx_dd d_Re_readOrder 9 rfl) ⟨lk_Re_40, wi_Ta_readToken, we_Ta_readToken⟩ w_Ta_readToken (hs.k 1 rfl) rfl rfl rfl rfl (Nat.le_of_ble_eq_true rfl) (x_Ta_readToken (d := d + 3) hR.1 b n i hR.2.1 hR.2.2.1 hR.2.2.2.1) (Nat.le_refl _) ⟨Nat.le_refl _, Nat.le_refl _⟩ (fun v h' hq => ?_)
      revert h'
      intro h1 hq
      obtain ⟨rfl, hto, hft⟩ := hq
      have hR1 := hR.tok hto hft
      have hF1 : kx_Fd a h h1 := hft.d
      obtain ⟨k1, k2, k3, k4, k5⟩ := id hto
      have hki := tK_le (b := b) (n := n) (i := i)
      have hs := hR1.1
      have hd := hR1.2.2.2.2.1
      have hr := IsRu.of hs hR1.2.2.2.2.2.1
      refine kx_iload_n (pc := 16) (kx_dd d_Re_readOrder 10 rfl) rfl rfl ?_
      refine kx_if_le (pc := 17) (tgt := 33) (kx_dd d_Re_readOrder 11 rfl) rfl (fun c17 => ?_) (fun c17 => ?_)
      · refine kx_aload_n (pc := 33) (kx_dd d_Re_readOrder 19 rfl) rfl rfl ?_
        refine kx_getR (pc := 34) (b := 1) fl_Re_22 (hs.k 3 rfl) rfl (hs.r 10 rfl) (kx_dd d_Re_readOrder 20 rfl) ?_
        refine kx_ldcS (pc := 37) (k := 4) rfl rfl ks_4 (kx_dd d_Re_readOrder 21 rfl) ?_
        refine kx_invV (pc := 39) (a := 1) (as := [_]) (kx_dd d_Re_readOrder 22 rfl) ⟨lk_Re_48, wi_Ta_among, we_Ta_among⟩ w_Ta_among (hs.k 1 rfl) rfl rfl rfl rfl (Nat.le_of_ble_eq_true rfl) (x_Ta_among (d := d + 1) hs (k := 4) (bs := [111, 119, 110, 101, 114, 32, 99, 97, 114, 103, 111, 32, 108, 101, 110, 100, 101, 114, 32, 105, 110, 115, 117, 114, 101, 114]) rfl bk_4) (Nat.le_refl _) ⟨Nat.le_refl _, Nat.le_refl _⟩ (fun v h' hq => ?_)
        obtain ⟨rfl, hz⟩ := hq
        rw [hz]
        clear hz
        rw [amO (len := ([111, 119, 110, 101, 114, 32, 99, 97, 114, 103, 111, 32, 108, 101, 110, 100, 101, 114, 32, 105, 110, 115, 117, 114, 101, 114] : List Int32).length) hin hto am_4]
        refine kx_istore_ne (pc := 42) (lv' := [_, _, _, _]) (kx_dd d_Re_readOrder 23 rfl) rfl (Nat.le_of_ble_eq_true rfl) rfl ?_
        refine kx_iload_n (pc := 43) (kx_dd d_Re_readOrder 24 rfl) rfl rfl ?_
        refine kx_iconst (pc := 44) (v := -1) (kx_dd d_Re_readOrder 25 rfl) rfl ?_
        refine kx_icmp_ne (pc := 45) (tgt := 54) (kx_dd d_Re_readOrder 26 rfl) rfl (fun c45 => ?_) (fun c45 => ?_)
        · rw [chO_i (by decide)] at c45
          obtain ⟨q4, hq4⟩ := Option.ne_none_iff_exists'.mp c45
          have hq44 : q4 < 4 := (chO_lt hq4).2
          rw [show oI (chO b n i nm4) = nI q4 by rw [hq4]; rfl]
          refine kx_iload_n (pc := 54) (kx_dd d_Re_readOrder 31 rfl) rfl rfl ?_
          refine kx_iload_n (pc := 55) (kx_dd d_Re_readOrder 32 rfl) rfl rfl ?_
          refine kx_ishr (pc := 56) (kx_dd d_Re_readOrder 33 rfl) ?_
          refine kx_iconst (pc := 57) (v := 1) (kx_dd d_Re_readOrder 34 rfl) rfl ?_
          refine kx_iand (pc := 58) (kx_dd d_Re_readOrder 35 rfl) ?_
          refine kx_if_eq (pc := 59) (tgt := 68) (kx_dd d_Re_readOrder 36 rfl) rfl (fun c59 => ?_) (fun c59 => ?_)
          · refine kx_iload_n (pc := 68) (kx_dd d_Re_readOrder 41 rfl) rfl rfl ?_
            refine kx_iconst (pc := 69) (v := 1) (kx_dd d_Re_readOrder 42 rfl) rfl ?_
            refine kx_iload_n (pc := 70) (kx_dd d_Re_readOrder 43 rfl) rfl rfl ?_
            refine kx_ishl (pc := 71) (kx_dd d_Re_readOrder 44 rfl) ?_
            refine kx_ior (pc := 72) (kx_dd d_Re_readOrder 45 rfl) ?_
            refine kx_istore_ne (pc := 73) (lv' := [_, _, _, _]) (kx_dd d_Re_readOrder 46 rfl) rfl (Nat.le_of_ble_eq_true rfl) rfl ?_
            rw [nI_bit (by omega) (by omega), nI_z (by unfold bitN; omega), seenN_b] at c59
            have hl3 : L.length < 4 := by
              have := nodup4 (L := L ++ [q4]) (fun x hx => by rcases List.mem_append.mp hx with z | z; exact hL x z; rw [List.mem_singleton.mp z]; exact hq44) (List.nodup_append.mpr ⟨hd0, by simp, by intro x hx y hy; rw [List.mem_singleton.mp hy]; exact fun z => c59 (z ▸ hx)⟩)
              simp at this
              omega
            rw [nI_pow (by omega), nI_or, ← seenN_snoc]
            refine kx_aload_n (pc := 74) (kx_dd d_Re_readOrder 47 rfl) rfl rfl ?_
            refine kx_getR (pc := 75) (b := a) fl_Re_12 (hs.k 3 rfl) rfl hd (kx_dd d_Re_readOrder 48 rfl) ?_
            refine kx_iload_n (pc := 78) (kx_dd d_Re_readOrder 49 rfl) rfl rfl ?_
            refine kx_iload_n (pc := 79) (kx_dd d_Re_readOrder 50 rfl) rfl rfl ?_
            refine kx_invV (pc := 80) (a := a) (as := [_, _]) (kx_dd d_Re_readOrder 51 rfl) ⟨lk_Re_124, wi_Ru_moveRole, we_Ru_moveRole⟩ w_Ru_moveRole (congrArg Prod.fst hr.1) rfl rfl rfl rfl (Nat.le_of_ble_eq_true rfl) (x_Ru_moveRole (d := d + 5) a hr (finO L) hR1.2.2.2.2.2.2.2.1.2.1 (fun k _ => finO_lt hL k) q4 L.length hq44 hl3) (Nat.le_refl _) ⟨Nat.le_refl _, Nat.le_refl _⟩ (fun v h' hq => ?_)
            revert h'
            intro h2 hq
            obtain ⟨rfl, hmo, hmf⟩ := hq
            obtain ⟨hR2, hF2⟩ := hR1.put (r' := ruOrd r (finO (L ++ [q4]))) ((hmf.mono (fun x j (z : x = a + 2 ∧ j < 4) => (show a ≤ x ∧ x ≤ a + 8 by omega))).g) (ho.ord (fun k _ => finO_lt (fun x hx => by rcases List.mem_append.mp hx with z | z; exact hL x z; rw [List.mem_singleton.mp z]; exact hq44) k)) (hR1.2.2.2.2.2.2.2.1.ord hmf (fun k hk => by rw [hmo k hk, mv_fin hL hd0 (by omega) hq44 c59 k hk]))
            refine kx_iinc_e (pc := 83) (v := nI (L ++ [q4]).length) (lv' := [_, _, _, _]) (kx_dd d_Re_readOrder 52 rfl) rfl (Nat.le_of_ble_eq_true rfl) (by rw [List.length_append]; exact nI_1 _) rfl ?_
            refine kx_goto (pc := 86) (tgt := 4) (kx_dd d_Re_readOrder 53 rfl) rfl ?_
            have hne : ¬ (L ≠ [] ∧ tK b n i = 3) := by
              rintro ⟨z, -⟩
              have : 0 < L.length := List.length_pos_iff.mpr z
              exact absurd c17 (nI_nle this (by omega))
            rw [if_neg hne] at he
            rw [hq4] at he
            simp only [c59, if_false] at he
            refine ih (tE b n i) (L ++ [q4]) (by simp; omega) (fun x hx => ?_) ?_ he h2 _ ?_ ((hf.tr hF1).tr hF2)
            · rcases List.mem_append.mp hx with z | z
              · exact hL x z
              · rw [List.mem_singleton.mp z]; exact hq44
            · exact List.nodup_append.mpr ⟨hd0, by simp, by intro x hx y hy; rw [List.mem_singleton.mp hy]; exact fun z => c59 (z ▸ hx)⟩
            · exact hR2
          · refine kx_aload_n (pc := 62) (kx_dd d_Re_readOrder 37 rfl) rfl rfl ?_
            refine kx_iconst (pc := 63) (v := 3) (kx_dd d_Re_readOrder 38 rfl) rfl ?_
            refine kx_invV (pc := 64) (a := 3) (as := [_]) (kx_dd d_Re_readOrder 39 rfl) ⟨lk_Re_63, wi_Re_refuse, we_Re_refuse⟩ w_Re_refuse (hs.k 3 rfl) rfl rfl rfl rfl (Nat.le_of_ble_eq_true rfl) (x_Re_refuse (d := d + 5) hs (nI 3)) (Nat.le_refl _) ⟨Nat.le_refl _, Nat.le_refl _⟩ (fun v h' hq => ?_)
            revert h'
            intro h9 hq
            obtain ⟨rfl, rfl⟩ := hq
            refine kx_zret (pc := 67) rfl rfl (kx_dd d_Re_readOrder 40 rfl) (Nat.le_refl _) (Nat.le_refl _) ?_
            have hne : ¬ (L ≠ [] ∧ tK b n i = 3) := by
              rintro ⟨z, -⟩
              have : 0 < L.length := List.length_pos_iff.mpr z
              exact absurd c17 (nI_nle this (by omega))
            rw [if_neg hne] at he
            rw [hq4] at he
            rw [nI_bit (by omega) (by omega), nI_z (by unfold bitN; omega), seenN_b, Classical.not_not] at c59
            simp only [c59, if_true] at he
            rw [← he]
            exact ⟨RD.fault (hf.tr hF1), rfl, FaQ.of (k := 3) k3⟩
        · refine kx_aload_n (pc := 48) (kx_dd d_Re_readOrder 27 rfl) rfl rfl ?_
          refine kx_iconst (pc := 49) (v := 1) (kx_dd d_Re_readOrder 28 rfl) rfl ?_
          refine kx_invV (pc := 50) (a := 3) (as := [_]) (kx_dd d_Re_readOrder 29 rfl) ⟨lk_Re_63, wi_Re_refuse, we_Re_refuse⟩ w_Re_refuse (hs.k 3 rfl) rfl rfl rfl rfl (Nat.le_of_ble_eq_true rfl) (x_Re_refuse (d := d + 5) hs (nI 1)) (Nat.le_refl _) ⟨Nat.le_refl _, Nat.le_refl _⟩ (fun v h' hq => ?_)
          revert h'
          intro h9 hq
          obtain ⟨rfl, rfl⟩ := hq
          refine kx_zret (pc := 53) rfl rfl (kx_dd d_Re_readOrder 30 rfl) (Nat.le_refl _) (Nat.le_refl _) ?_
          have hne : ¬ (L ≠ [] ∧ tK b n i = 3) := by
            rintro ⟨z, -⟩
            have : 0 < L.length := List.length_pos_iff.mpr z
            exact absurd c17 (nI_nle this (by omega))
          rw [if_neg hne] at he
          rw [chO_i (by decide)] at c45
          rw [c45] at he
          rw [← he]
          exact ⟨RD.fault (hf.tr hF1), rfl, FaQ.of (k := 1) k3⟩
      · refine kx_aload_n (pc := 20) (kx_dd d_Re_readOrder 12 rfl) rfl rfl ?_
        refine kx_getR (pc := 21) (b := 1) fl_Re_22 (hs.k 3 rfl) rfl (hs.r 10 rfl) (kx_dd d_Re_readOrder 13 rfl) ?_
        refine kx_getI (pc := 24) fl_Re_43 (hs.k 1 rfl) rfl (kx_dd d_Re_readOrder 14 rfl) ?_
        refine kx_iconst (pc := 27) (v := 3) (kx_dd d_Re_readOrder 15 rfl) rfl ?_
        refine kx_icmp_ne (pc := 28) (tgt := 33) (kx_dd d_Re_readOrder 16 rfl) rfl (fun c28 => ?_) (fun c28 => ?_)
        · refine kx_aload_n (pc := 33) (kx_dd d_Re_readOrder 19 rfl) rfl rfl ?_
          refine kx_getR (pc := 34) (b := 1) fl_Re_22 (hs.k 3 rfl) rfl (hs.r 10 rfl) (kx_dd d_Re_readOrder 20 rfl) ?_
          refine kx_ldcS (pc := 37) (k := 4) rfl rfl ks_4 (kx_dd d_Re_readOrder 21 rfl) ?_
          refine kx_invV (pc := 39) (a := 1) (as := [_]) (kx_dd d_Re_readOrder 22 rfl) ⟨lk_Re_48, wi_Ta_among, we_Ta_among⟩ w_Ta_among (hs.k 1 rfl) rfl rfl rfl rfl (Nat.le_of_ble_eq_true rfl) (x_Ta_among (d := d + 1) hs (k := 4) (bs := [111, 119, 110, 101, 114, 32, 99, 97, 114, 103, 111, 32, 108, 101, 110, 100, 101, 114, 32, 105, 110, 115, 117, 114, 101, 114]) rfl bk_4) (Nat.le_refl _) ⟨Nat.le_refl _, Nat.le_refl _⟩ (fun v h' hq => ?_)
          obtain ⟨rfl, hz⟩ := hq
          rw [hz]
          clear hz
          rw [amO (len := ([111, 119, 110, 101, 114, 32, 99, 97, 114, 103, 111, 32, 108, 101, 110, 100, 101, 114, 32, 105, 110, 115, 117, 114, 101, 114] : List Int32).length) hin hto am_4]
          refine kx_istore_ne (pc := 42) (lv' := [_, _, _, _]) (kx_dd d_Re_readOrder 23 rfl) rfl (Nat.le_of_ble_eq_true rfl) rfl ?_
          refine kx_iload_n (pc := 43) (kx_dd d_Re_readOrder 24 rfl) rfl rfl ?_
          refine kx_iconst (pc := 44) (v := -1) (kx_dd d_Re_readOrder 25 rfl) rfl ?_
          refine kx_icmp_ne (pc := 45) (tgt := 54) (kx_dd d_Re_readOrder 26 rfl) rfl (fun c45 => ?_) (fun c45 => ?_)
          · rw [chO_i (by decide)] at c45
            obtain ⟨q4, hq4⟩ := Option.ne_none_iff_exists'.mp c45
            have hq44 : q4 < 4 := (chO_lt hq4).2
            rw [show oI (chO b n i nm4) = nI q4 by rw [hq4]; rfl]
            refine kx_iload_n (pc := 54) (kx_dd d_Re_readOrder 31 rfl) rfl rfl ?_
            refine kx_iload_n (pc := 55) (kx_dd d_Re_readOrder 32 rfl) rfl rfl ?_
            refine kx_ishr (pc := 56) (kx_dd d_Re_readOrder 33 rfl) ?_
            refine kx_iconst (pc := 57) (v := 1) (kx_dd d_Re_readOrder 34 rfl) rfl ?_
            refine kx_iand (pc := 58) (kx_dd d_Re_readOrder 35 rfl) ?_
            refine kx_if_eq (pc := 59) (tgt := 68) (kx_dd d_Re_readOrder 36 rfl) rfl (fun c59 => ?_) (fun c59 => ?_)
            · refine kx_iload_n (pc := 68) (kx_dd d_Re_readOrder 41 rfl) rfl rfl ?_
              refine kx_iconst (pc := 69) (v := 1) (kx_dd d_Re_readOrder 42 rfl) rfl ?_
              refine kx_iload_n (pc := 70) (kx_dd d_Re_readOrder 43 rfl) rfl rfl ?_
              refine kx_ishl (pc := 71) (kx_dd d_Re_readOrder 44 rfl) ?_
              refine kx_ior (pc := 72) (kx_dd d_Re_readOrder 45 rfl) ?_
              refine kx_istore_ne (pc := 73) (lv' := [_, _, _, _]) (kx_dd d_Re_readOrder 46 rfl) rfl (Nat.le_of_ble_eq_true rfl) rfl ?_
              rw [nI_bit (by omega) (by omega), nI_z (by unfold bitN; omega), seenN_b] at c59
              have hl3 : L.length < 4 := by
                have := nodup4 (L := L ++ [q4]) (fun x hx => by rcases List.mem_append.mp hx with z | z; exact hL x z; rw [List.mem_singleton.mp z]; exact hq44) (List.nodup_append.mpr ⟨hd0, by simp, by intro x hx y hy; rw [List.mem_singleton.mp hy]; exact fun z => c59 (z ▸ hx)⟩)
                simp at this
                omega
              rw [nI_pow (by omega), nI_or, ← seenN_snoc]
              refine kx_aload_n (pc := 74) (kx_dd d_Re_readOrder 47 rfl) rfl rfl ?_
              refine kx_getR (pc := 75) (b := a) fl_Re_12 (hs.k 3 rfl) rfl hd (kx_dd d_Re_readOrder 48 rfl) ?_
              refine kx_iload_n (pc := 78) (kx_dd d_Re_readOrder 49 rfl) rfl rfl ?_
              refine kx_iload_n (pc := 79) (kx_dd d_Re_readOrder 50 rfl) rfl rfl ?_
              refine kx_invV (pc := 80) (a := a) (as := [_, _]) (kx_dd d_Re_readOrder 51 rfl) ⟨lk_Re_124, wi_Ru_moveRole, we_Ru_moveRole⟩ w_Ru_moveRole (congrArg Prod.fst hr.1) rfl rfl rfl rfl (Nat.le_of_ble_eq_true rfl) (x_Ru_moveRole (d := d + 5) a hr (finO L) hR1.2.2.2.2.2.2.2.1.2.1 (fun k _ => finO_lt hL k) q4 L.length hq44 hl3) (Nat.le_refl _) ⟨Nat.le_refl _, Nat.le_refl _⟩ (fun v h' hq => ?_)
              revert h'
              intro h2 hq
              obtain ⟨rfl, hmo, hmf⟩ := hq
              obtain ⟨hR2, hF2⟩ := hR1.put (r' := ruOrd r (finO (L ++ [q4]))) ((hmf.mono (fun x j (z : x = a + 2 ∧ j < 4) => (show a ≤ x ∧ x ≤ a + 8 by omega))).g) (ho.ord (fun k _ => finO_lt (fun x hx => by rcases List.mem_append.mp hx with z | z; exact hL x z; rw [List.mem_singleton.mp z]; exact hq44) k)) (hR1.2.2.2.2.2.2.2.1.ord hmf (fun k hk => by rw [hmo k hk, mv_fin hL hd0 (by omega) hq44 c59 k hk]))
              refine kx_iinc_e (pc := 83) (v := nI (L ++ [q4]).length) (lv' := [_, _, _, _]) (kx_dd d_Re_readOrder 52 rfl) rfl (Nat.le_of_ble_eq_true rfl) (by rw [List.length_append]; exact nI_1 _) rfl ?_
              refine kx_goto (pc := 86) (tgt := 4) (kx_dd d_Re_readOrder 53 rfl) rfl ?_
              have hne : ¬ (L ≠ [] ∧ tK b n i = 3) := by
                rintro ⟨-, z⟩
                rw [k2, z] at c28
                exact absurd rfl c28
              rw [if_neg hne] at he
              rw [hq4] at he
              simp only [c59, if_false] at he
              refine ih (tE b n i) (L ++ [q4]) (by simp; omega) (fun x hx => ?_) ?_ he h2 _ ?_ ((hf.tr hF1).tr hF2)
              · rcases List.mem_append.mp hx with z | z
                · exact hL x z
                · rw [List.mem_singleton.mp z]; exact hq44
              · exact List.nodup_append.mpr ⟨hd0, by simp, by intro x hx y hy; rw [List.mem_singleton.mp hy]; exact fun z => c59 (z ▸ hx)⟩
              · exact hR2
            · refine kx_aload_n (pc := 62) (kx_dd d_Re_readOrder 37 rfl) rfl rfl ?_
              refine kx_iconst (pc := 63) (v := 3) (kx_dd d_Re_readOrder 38 rfl) rfl ?_
              refine kx_invV (pc := 64) (a := 3) (as := [_]) (kx_dd d_Re_readOrder 39 rfl) ⟨lk_Re_63, wi_Re_refuse, we_Re_refuse⟩ w_Re_refuse (hs.k 3 rfl) rfl rfl rfl rfl (Nat.le_of_ble_eq_true rfl) (x_Re_refuse (d := d + 5) hs (nI 3)) (Nat.le_refl _) ⟨Nat.le_refl _, Nat.le_refl _⟩ (fun v h' hq => ?_)
              revert h'
              intro h9 hq
              obtain ⟨rfl, rfl⟩ := hq
              refine kx_zret (pc := 67) rfl rfl (kx_dd d_Re_readOrder 40 rfl) (Nat.le_refl _) (Nat.le_refl _) ?_
              have hne : ¬ (L ≠ [] ∧ tK b n i = 3) := by
                rintro ⟨-, z⟩
                rw [k2, z] at c28
                exact absurd rfl c28
              rw [if_neg hne] at he
              rw [hq4] at he
              rw [nI_bit (by omega) (by omega), nI_z (by unfold bitN; omega), seenN_b, Classical.not_not] at c59
              simp only [c59, if_true] at he
              rw [← he]
              exact ⟨RD.fault (hf.tr hF1), rfl, FaQ.of (k := 3) k3⟩
          · refine kx_aload_n (pc := 48) (kx_dd d_Re_readOrder 27 rfl) rfl rfl ?_
            refine kx_iconst (pc := 49) (v := 1) (kx_dd d_Re_readOrder 28 rfl) rfl ?_
            refine kx_invV (pc := 50) (a := 3) (as := [_]) (kx_dd d_Re_readOrder 29 rfl) ⟨lk_Re_63, wi_Re_refuse, we_Re_refuse⟩ w_Re_refuse (hs.k 3 rfl) rfl rfl rfl rfl (Nat.le_of_ble_eq_true rfl) (x_Re_refuse (d := d + 5) hs (nI 1)) (Nat.le_refl _) ⟨Nat.le_refl _, Nat.le_refl _⟩ (fun v h' hq => ?_)
            revert h'
            intro h9 hq
            obtain ⟨rfl, rfl⟩ := hq
            refine kx_zret (pc := 53) rfl rfl (kx_dd d_Re_readOrder 30 rfl) (Nat.le_refl _) (Nat.le_refl _) ?_
            have hne : ¬ (L ≠ [] ∧ tK b n i = 3) := by
              rintro ⟨-, z⟩
              rw [k2, z] at c28
              exact absurd rfl c28
            rw [if_neg hne] at he
            rw [chO_i (by decide)] at c45
            rw [c45] at he
            rw [← he]
            exact ⟨RD.fault (hf.tr hF1), rfl, FaQ.of (k := 1) k3⟩
        · refine kx_iconst (pc := 31) (v := 1) (kx_dd d_Re_readOrder 17 rfl) rfl ?_
          refine kx_zret (pc := 32) rfl rfl (kx_dd d_Re_readOrder 18 rfl) (Nat.le_refl _) (Nat.le_refl _) ?_
          rw [k2, show (3 : Int32) = nI 3 from rfl, nI_eq (by omega) (by decide)] at c28
          have hne : L ≠ [] := by
            intro z
            rw [z] at c17
            exact absurd (by decide) c17
          rw [if_pos ⟨hne, c28⟩] at he
          rw [← he]
          exact ⟨hf.tr hF1, rfl, hR1⟩
theorem x_Re_readOrder {l : Launch} {g : kx_G} {d : Nat} {h : kx_Mem} (a : Nat) (b : Nat → Int32) (n i : Nat) (r : RU) (hR : RD a b n i r h) (hO : ∀ k, k < 4 → ruO r k = k) : kx_Sp l g m_Re_readOrder [.ref 3] h (d + 6) 0 0 (fun v h' => PoD a b n h v h' (ordF2 b n i r)) := by
  have hs := hR.1
  have hd := hR.2.2.2.2.1
  have ha := hR.2.2.2.2.2.1
  have hg := ha.g
  have hr := IsRu.of hs ha
  have hin := hR.2.2.1
  have ho := hR.2.2.2.2.2.2.1
  have oa := hr.2.2.2.2.2.2.2.2.2.2.2.2.2.2.2.2.2
  have o16 := ho.1
  refine kx_enter_e (lv := [_, _, _, _]) (by decide +kernel) (Nat.le_of_ble_eq_true rfl) rfl ?_
  refine kx_iconst (pc := 0) (v := 0) (kx_dd d_Re_readOrder 0 rfl) rfl ?_
  refine kx_istore_ne (pc := 1) (lv' := [_, _, _, _]) (kx_dd d_Re_readOrder 1 rfl) rfl (Nat.le_of_ble_eq_true rfl) rfl ?_
  refine kx_iconst (pc := 2) (v := 0) (kx_dd d_Re_readOrder 2 rfl) rfl ?_
  refine kx_istore_ne (pc := 3) (lv' := [_, _, _, _]) (kx_dd d_Re_readOrder 3 rfl) rfl (Nat.le_of_ble_eq_true rfl) rfl ?_
  have hR0 : RD a b n i (ruOrd r (finO [])) h := ⟨hR.1, hR.2.1, hR.2.2.1, hR.2.2.2.1, hR.2.2.2.2.1, hR.2.2.2.2.2.1, ho.ord (by decide), hR.2.2.2.2.2.2.2.1.ord kx_Fc.rf (fun k hk => by rw [hR.2.2.2.2.2.2.2.1.2.1 k hk, hO k hk]; exact congrArg nI (show k = finO [] k from (by decide : ∀ k, k < 4 → k = finO [] k) k hk)), hR.2.2.2.2.2.2.2.2⟩
  exact x_Re_ord a b n r _ 5 i [] rfl (by simp) List.nodup_nil rfl h none hR0 kx_Fg.rf
