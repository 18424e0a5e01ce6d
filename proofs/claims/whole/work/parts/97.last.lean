/-! the fund: last: how the rest is parted; the class -/
def wtF (S : FS3) (k : Nat) : Nat := cN S.1.2.2.1 k 10 - cN S.1.2.2.1 k 11
def sumN (f : Nat → Nat) : Nat → Nat
  | 0 => 0
  | k + 1 => sumN f k + f k
def amx (rs : Nat → Int64) : Nat → Nat
  | 0 => 0
  | k + 1 => if k = 0 then 0 else if rs (amx rs k) < rs k then k else amx rs k
def rndF (n : Nat) (gs : Nat → Nat) (rs : Nat → Int64) : Nat → (Nat → Nat) × (Nat → Int64)
  | 0 => (gs, rs)
  | t + 1 => (upF (rndF n gs rs t).1 (amx (rndF n gs rs t).2 n) ((rndF n gs rs t).1 (amx (rndF n gs rs t).2 n) + 1), upF (rndF n gs rs t).2 (amx (rndF n gs rs t).2 n) (-1))
def sh0 (S : FS3) (W k : Nat) : Nat := S.2.1 * wtF S k / W
def rs0 (S : FS3) (W k : Nat) : Int64 := lN (S.2.1 * wtF S k % W)
def getF (S : FS3) (W : Nat) : Nat → Nat := if W ≤ S.2.1 then wtF S else (rndF S.1.2.2.1.1 (sh0 S W) (rs0 S W) (S.2.1 - sumN (sh0 S W) S.1.2.2.1.1)).1
noncomputable def lasK (td : Nat) (G : Nat → Nat) (S : FS3) : Nat → Nat × FS3
  | 0 => (0, S)
  | k + 1 => ((lasK td G S k).1 + G k, payM td (lasK td G S k).2 k (G k))
def penD (D : DK) : Prop := ∃ c, c < D.2.2.1.1 ∧ (cN D.2.2.1 c 8 = 0 ∨ cN D.2.2.1 c 8 = 1)
noncomputable def lasR (S : FS3) (td : Nat) : Int32 × FS3 := @ite _ (penD S.1) (Classical.propDecidable _) (-4, S) (nI (lasK td (getF S (sumN (wtF S) S.1.2.2.1.1)) S S.1.2.2.1.1).1, (lasK td (getF S (sumN (wtF S) S.1.2.2.1.1)) S S.1.2.2.1.1).2)
theorem amx_lt {rs : Nat → Int64} : ∀ n, 0 < n → amx rs n < n
  | 0, h => absurd h (Nat.lt_irrefl 0)
  | k + 1, _ => by
    unfold amx
    split
    · omega
    · split
      · omega
      · have := amx_lt (rs := rs) k (by omega); omega
theorem amx_c {rs rt : Nat → Int64} : ∀ {n : Nat}, (∀ i, i < n → rs i = rt i) → amx rs n = amx rt n
  | 0, _ => rfl
  | k + 1, h => by
    have ih := amx_c (n := k) (fun i hi => h i (by omega))
    unfold amx
    split
    · rfl
    next hk =>
      rw [ih, h _ (by have := amx_lt (rs := rt) k (by omega); omega), h k (by omega)]
theorem amx_1 {rs : Nat → Int64} : amx rs 1 = 0 := rfl
theorem amx_y {rs : Nat → Int64} {k : Nat} (h0 : 0 < k) (h : rs (amx rs k) < rs k) : amx rs (k + 1) = k := by
  conv => lhs; unfold amx
  rw [if_neg (by omega), if_pos h]
theorem amx_n {rs : Nat → Int64} {k : Nat} (h0 : 0 < k) (h : ¬ rs (amx rs k) < rs k) : amx rs (k + 1) = amx rs k := by
  conv => lhs; unfold amx
  rw [if_neg (by omega), if_neg h]
theorem sumN_mono {f : Nat → Nat} : ∀ {a b : Nat}, a ≤ b → sumN f a ≤ sumN f b := by
  intro a b h
  induction h with
  | refl => exact Nat.le_refl _
  | step h ih => exact Nat.le_trans ih (Nat.le_add_right _ _)
theorem sumN_up {f : Nat → Nat} {b : Nat} : ∀ n, sumN (upF f b (f b + 1)) n = sumN f n + (if b < n then 1 else 0)
  | 0 => rfl
  | n + 1 => by
    have ih := sumN_up (f := f) (b := b) n
    show sumN (upF f b (f b + 1)) n + upF f b (f b + 1) n = sumN f n + f n + _
    rw [ih]
    unfold upF
    by_cases e : n = b
    · subst e
      rw [if_pos rfl, if_neg (Nat.lt_irrefl _), if_pos (Nat.lt_succ_self _)]
      omega
    · rw [if_neg e]
      by_cases e2 : b < n
      · rw [if_pos e2, if_pos (by omega)]; omega
      · rw [if_neg e2, if_neg (by omega)]; omega
theorem rnd_sum {n : Nat} (hn : 0 < n) {gs : Nat → Nat} {rs : Nat → Int64} : ∀ t, sumN (rndF n gs rs t).1 n = sumN gs n + t
  | 0 => rfl
  | t + 1 => by
    show sumN (upF (rndF n gs rs t).1 (amx (rndF n gs rs t).2 n) ((rndF n gs rs t).1 (amx (rndF n gs rs t).2 n) + 1)) n = _
    rw [sumN_up, if_pos (amx_lt n hn), rnd_sum hn t]
    omega
theorem rnd_le {n : Nat} {gs : Nat → Nat} {rs : Nat → Int64} {b : Nat} (hb : ∀ k, gs k ≤ b) : ∀ t k, (rndF n gs rs t).1 k ≤ b + t
  | 0, k => by have := hb k; show gs k ≤ b + 0; omega
  | t + 1, k => by
    have h1 := rnd_le (n := n) (rs := rs) hb t k
    have h2 := rnd_le (n := n) (rs := rs) hb t (amx (rndF n gs rs t).2 n)
    show upF _ _ _ k ≤ _
    unfold upF
    split <;> omega
/-- what the floors leave is less than there are claims -/
theorem ov_lt {S : FS3} {W n : Nat} (hW : sumN (wtF S) n = W) (hK : S.2.1 < W) : sumN (sh0 S W) n ≤ S.2.1 ∧ S.2.1 - sumN (sh0 S W) n < n ∧ 0 < n := by
  have key : ∀ k, ∃ r, S.2.1 * sumN (wtF S) k = W * sumN (sh0 S W) k + r ∧ r + k ≤ k * W := by
    intro k
    induction k with
    | zero => exact ⟨0, by simp [sumN], by simp⟩
    | succ k ih =>
      obtain ⟨r, h1, h2⟩ := ih
      refine ⟨r + S.2.1 * wtF S k % W, ?_, ?_⟩
      · show S.2.1 * (sumN (wtF S) k + wtF S k) = W * (sumN (sh0 S W) k + S.2.1 * wtF S k / W) + _
        have := Nat.div_add_mod (S.2.1 * wtF S k) W
        rw [Nat.mul_add, Nat.mul_add, h1]
        omega
      · have := Nat.mod_lt (S.2.1 * wtF S k) (show W > 0 by omega)
        rw [Nat.succ_mul]
        omega
  obtain ⟨r, h1, h2⟩ := key n
  rw [hW] at h1
  have hn : 0 < n := by
    rcases Nat.eq_zero_or_pos n with e | e
    · subst e
      have : W = 0 := by rw [← hW]; rfl
      omega
    · exact e
  have hle : sumN (sh0 S W) n ≤ S.2.1 := by
    apply Nat.le_of_mul_le_mul_left (c := W) _ (by omega)
    rw [Nat.mul_comm W S.2.1]
    omega
  refine ⟨hle, ?_, hn⟩
  apply Nat.lt_of_mul_lt_mul_left (a := W)
  rw [Nat.mul_sub, Nat.mul_comm W S.2.1, Nat.mul_comm W n]
  omega
theorem get_sum {S : FS3} {W : Nat} (hW : sumN (wtF S) S.1.2.2.1.1 = W) : sumN (getF S W) S.1.2.2.1.1 ≤ S.2.1 := by
  unfold getF
  split
  next h => rw [hW]; exact h
  next h =>
    obtain ⟨h1, h2, h3⟩ := ov_lt hW (by omega)
    rw [rnd_sum h3]
    omega
theorem sumN_at {f : Nat → Nat} {n k : Nat} (hk : k < n) : sumN f k + f k ≤ sumN f n := sumN_mono (f := f) (show k + 1 ≤ n from hk)
theorem lasK_ok {td M : Nat} {G : Nat → Nat} {S : FS3} (ho : DKok S.1) (hI : FnI S M) (hG : sumN G S.1.2.2.1.1 ≤ S.2.1) : ∀ k, k ≤ S.1.2.2.1.1 → DKok (lasK td G S k).2.1 ∧ FnI (lasK td G S k).2 M ∧ ((lasK td G S k).2.1.2.2.1.1 = S.1.2.2.1.1 ∧ (lasK td G S k).2.1.1 = S.1.1 ∧ (lasK td G S k).2.1.2.1 = S.1.2.1) ∧ (∀ c j, j ≠ 11 → cN (lasK td G S k).2.1.2.2.1 c j = cN S.1.2.2.1 c j) ∧ (∀ c, k ≤ c → cN (lasK td G S k).2.1.2.2.1 c 11 = cN S.1.2.2.1 c 11) ∧ (lasK td G S k).2.2.1 = S.2.1 - sumN G k
  | 0, _ => ⟨ho, hI, ⟨rfl, rfl, rfl⟩, fun _ _ _ => rfl, fun _ _ => rfl, rfl⟩
  | k + 1, hk => by
    obtain ⟨h1, h2, ⟨h3, h4, h5⟩, h6, h7, h8⟩ := lasK_ok (td := td) ho hI hG k (by omega)
    have e : lasK td G S (k + 1) = ((lasK td G S k).1 + G k, payM td (lasK td G S k).2 k (G k)) := rfl
    have hs := sumN_at (f := G) (show k < S.1.2.2.1.1 by omega)
    rw [e]
    have hn := payM_n (td := td) (c := k) (m := G k) (S := (lasK td G S k).2)
    refine ⟨payM_ok h1, payM_I h2 (by omega) (by rw [h8]; omega), ⟨hn.1.trans h3, hn.2.1.trans h4, hn.2.2.trans h5⟩, fun c j hj => (payM_cN hj).trans (h6 c j hj), fun c hc => ?_, ?_⟩
    · have e1 := payM_11 (td := td) (m := G k) (S := (lasK td G S k).2) (c := k) (c' := c) (by omega)
      have e2 : cN (payM td (lasK td G S k).2 k (G k)).1.2.2.1 c 11 = cN (lasK td G S k).2.1.2.2.1 c 11 := by unfold cN; rw [e1]
      exact e2.trans (h7 c (by omega))
    · show (payM td (lasK td G S k).2 k (G k)).2.1 = S.2.1 - (sumN G k + G k)
      rw [payM_K, h8]
      omega
theorem wantI {a q : Nat} (ha : a < 2 ^ 30) (hq : q < 2 ^ 30) : (if (0 : Int32) < nI a - nI q then nI a - nI q else 0) = nI (a - q) := by
  by_cases e : q ≤ a
  · rw [pk_sub e]
    by_cases e2 : 0 < a - q
    · rw [if_pos (by rw [show (0 : Int32) = nI 0 from rfl, nI_ltI (by decide) (by omega)]; exact e2)]
    · have : a - q = 0 := by omega
      rw [this]
      rfl
  · have := pk_sneg hq (show a < q by omega)
    rw [if_neg (fun z => absurd (Int32.lt_trans z this) (by decide)), show a - q = 0 by omega]
    rfl
theorem wtF_le {S : FS3} (ho : DKok S.1) {k : Nat} (hk : k < S.1.2.2.1.1) : wtF S k ≤ 6600000 := by
  have := (ho.2.2.1.2 k hk).2.2.2.2.2.2.2.2.2.2.2.1
  unfold wtF
  omega
theorem wtS_le {S : FS3} (ho : DKok S.1) : ∀ k, k ≤ S.1.2.2.1.1 → sumN (wtF S) k ≤ 6600000 * k
  | 0, _ => Nat.le_refl _
  | k + 1, hk => by
    have := wtS_le ho k (by omega)
    have := wtF_le ho (show k < S.1.2.2.1.1 by omega)
    show sumN (wtF S) k + wtF S k ≤ _
    omega
theorem cntS_z {s : CSt} {w : Int32} : ∀ n, cntS s w n = 0 ↔ ∀ c, c < n → ¬ s.2.1 c 8 = w
  | 0 => ⟨fun _ c hc => absurd hc (Nat.not_lt_zero c), fun _ => rfl⟩
  | n + 1 => by
    have ih := cntS_z (s := s) (w := w) n
    unfold cntS
    by_cases e : s.2.1 n 8 = w
    · rw [if_pos e]
      exact ⟨fun z => by omega, fun z => absurd e (z n (Nat.lt_succ_self n))⟩
    · rw [if_neg e, ih]
      constructor
      · intro z c hc
        rcases Nat.lt_succ_iff_lt_or_eq.mp hc with y | y
        · exact z c y
        · rw [y]; exact e
      · exact fun z c hc => z c (by omega)
theorem pen_cnt {D : DK} (ho : DKok D) : penD D ↔ 0 < cntS D.2.2.1 0 D.2.2.1.1 + cntS D.2.2.1 1 D.2.2.1.1 := by
  have z0 := cntS_z (s := D.2.2.1) (w := 0) D.2.2.1.1
  have z1 := cntS_z (s := D.2.2.1) (w := 1) D.2.2.1.1
  have hv : ∀ c, c < D.2.2.1.1 → (D.2.2.1.2.1 c 8 = 0 ↔ cN D.2.2.1 c 8 = 0) ∧ (D.2.2.1.2.1 c 8 = 1 ↔ cN D.2.2.1 c 8 = 1) := fun c hc => by
    have oc := ho.2.2.1.2 c hc
    have b8 : cN D.2.2.1 c 8 ≤ 3 := oc.2.2.2.2.2.2.2.2.2.1
    have e := oc.1 8 (by decide) (by decide) (by decide) (by decide)
    constructor
    · rw [e, nI_z (by omega)]
    · rw [e, show (1 : Int32) = nI 1 from rfl, nI_eq (by omega) (by decide)]
  constructor
  · rintro ⟨c, hc, h | h⟩
    · have : ¬ cntS D.2.2.1 0 D.2.2.1.1 = 0 := fun z => z0.mp z c hc ((hv c hc).1.mpr h)
      omega
    · have : ¬ cntS D.2.2.1 1 D.2.2.1.1 = 0 := fun z => z1.mp z c hc ((hv c hc).2.mpr h)
      omega
  · intro h
    apply Classical.byContradiction
    intro hn
    have a0 := z0.mpr (fun c hc z => hn ⟨c, hc, Or.inl ((hv c hc).1.mp z)⟩)
    have a1 := z1.mpr (fun c hc z => hn ⟨c, hc, Or.inr ((hv c hc).2.mp z)⟩)
    omega
theorem x_Fu_wantOf {l : Launch} {g : kx_G} {d : Nat} {h : kx_Mem} (a x y : Nat) (hk : h.2.2.2.1 a = (2, 0)) (h10 : h.1 a 10 = nI x) (h11 : h.1 a 11 = nI y) (hx : x < 2 ^ 30) (hy : y < 2 ^ 30) : kx_Sp l g m_Fu_wantOf [.ref a] h (d + 1) 0 0 (fun v h' => v = some (.long (lN (x - y))) ∧ h' = h) := by
  refine kx_enter_e (lv := [_]) (by decide +kernel) (Nat.le_of_ble_eq_true rfl) rfl ?_
  refine kx_iconst (pc := 0) (v := 0) (kx_dd d_Fu_wantOf 0 rfl) rfl ?_
  refine kx_aload_n (pc := 1) (kx_dd d_Fu_wantOf 1 rfl) rfl rfl ?_
  refine kx_getI (pc := 2) fl_Fu_67 (congrArg Prod.fst hk) rfl (kx_dd d_Fu_wantOf 2 rfl) ?_
  refine kx_aload_n (pc := 5) (kx_dd d_Fu_wantOf 3 rfl) rfl rfl ?_
  refine kx_getI (pc := 6) fl_Fu_70 (congrArg Prod.fst hk) rfl (kx_dd d_Fu_wantOf 4 rfl) ?_
  rw [h10, h11]
  refine kx_isub (pc := 9) (kx_dd d_Fu_wantOf 5 rfl) ?_
  refine kx_mmax (pc := 10) mk_Fu_94 (kx_dd d_Fu_wantOf 6 rfl) (Nat.le_of_ble_eq_true rfl) (Nat.le_of_ble_eq_true rfl) (Nat.le_refl _) (Nat.le_refl _) ?_
  rw [wantI hx hy]
  refine kx_i2l (pc := 13) (kx_dd d_Fu_wantOf 7 rfl) ?_
  rw [nI_l (by omega)]
  refine kx_lret (pc := 14) rfl (kx_dd d_Fu_wantOf 8 rfl) (Nat.le_refl _) (Nat.le_refl _) ?_
  exact ⟨rfl, rfl⟩
theorem x_gr_loop {l : Launch} {g : kx_G} {d : Nat} {h : kx_Mem} (hs : SC h) (n : Nat) (hn : n ≤ 60) : ∀ f i, i + f = n → 0 < i → kx_X (l, g, m_Fu_greatestRest, d, 0, 0, (fun v h' => v = some (.int (nI (amx (fun i => h.2.1 47 i) n))) ∧ h' = h)) 0 0 4 [some (.ref 45), some (.int (nI n)), some (.int (nI (amx (fun i => h.2.1 47 i) i))), some (.int (nI i))] [] h := by
  intro f
  induction f with
  | zero =>
    intro i hi h0
    have e : i = n := by omega
    subst e
    refine kx_iload_n (pc := 4) (kx_dd d_Fu_greatestRest 4 rfl) rfl rfl ?_
    refine kx_iload_n (pc := 5) (kx_dd d_Fu_greatestRest 5 rfl) rfl rfl ?_
    refine kx_icmp_ge (pc := 6) (tgt := 39) (kx_dd d_Fu_greatestRest 6 rfl) rfl (fun c6 => ?_) (fun c6 => ?_)
    · refine kx_iload_n (pc := 39) (kx_dd d_Fu_greatestRest 24 rfl) rfl rfl ?_
      refine kx_iret (pc := 40) rfl (kx_dd d_Fu_greatestRest 25 rfl) (Nat.le_refl _) (Nat.le_refl _) ?_
      exact ⟨rfl, rfl⟩
    · exact absurd (Int32.le_refl _) c6
  | succ f ih =>
    intro i hi h0
    have al := amx_lt (rs := (fun i => h.2.1 47 i)) i h0
    refine kx_iload_n (pc := 4) (kx_dd d_Fu_greatestRest 4 rfl) rfl rfl ?_
    refine kx_iload_n (pc := 5) (kx_dd d_Fu_greatestRest 5 rfl) rfl rfl ?_
    refine kx_icmp_ge (pc := 6) (tgt := 39) (kx_dd d_Fu_greatestRest 6 rfl) rfl (fun c6 => ?_) (fun c6 => ?_)
    · exact absurd c6 (nI_ge (by omega) (by omega))
    · refine kx_iload_n (pc := 9) (kx_dd d_Fu_greatestRest 7 rfl) rfl rfl ?_
      refine kx_bipush (pc := 10) (v := 60) (kx_dd d_Fu_greatestRest 8 rfl) rfl ?_
      refine kx_icmp_ge (pc := 12) (tgt := 39) (kx_dd d_Fu_greatestRest 9 rfl) rfl (fun c12 => ?_) (fun c12 => ?_)
      · exact absurd c12 (nI_ge (b := 60) (by omega) (by decide))
      · refine kx_aload_n (pc := 15) (kx_dd d_Fu_greatestRest 10 rfl) rfl rfl ?_
        refine kx_getR (pc := 16) (b := 47) fl_Fu_17 (hs.k 45 rfl) rfl (hs.r 50 rfl) (kx_dd d_Fu_greatestRest 11 rfl) ?_
        refine kx_iload_n (pc := 19) (kx_dd d_Fu_greatestRest 12 rfl) rfl rfl ?_
        refine kx_laldn (pc := 20) i (hs.t 47 rfl) rfl (by omega) (by decide) (kx_dd d_Fu_greatestRest 13 rfl) ?_
        refine kx_aload_n (pc := 21) (kx_dd d_Fu_greatestRest 14 rfl) rfl rfl ?_
        refine kx_getR (pc := 22) (b := 47) fl_Fu_17 (hs.k 45 rfl) rfl (hs.r 50 rfl) (kx_dd d_Fu_greatestRest 15 rfl) ?_
        refine kx_iload_n (pc := 25) (kx_dd d_Fu_greatestRest 16 rfl) rfl rfl ?_
        refine kx_laldn (pc := 26) (amx (fun i => h.2.1 47 i) i) (hs.t 47 rfl) rfl (by omega) (by decide) (kx_dd d_Fu_greatestRest 17 rfl) ?_
        refine kx_lcmp (pc := 27) (kx_dd d_Fu_greatestRest 18 rfl) ?_
        refine kx_if_le (pc := 28) (tgt := 33) (kx_dd d_Fu_greatestRest 19 rfl) rfl (fun c28 => ?_) (fun c28 => ?_)
        · refine kx_iinc_e (pc := 33) (v := nI (i + 1)) (lv' := [_, _, _, _]) (kx_dd d_Fu_greatestRest 22 rfl) rfl (Nat.le_of_ble_eq_true rfl) (nI_1 i) rfl ?_
          refine kx_goto (pc := 36) (tgt := 4) (kx_dd d_Fu_greatestRest 23 rfl) rfl ?_
          rw [lg_cmp_le] at c28
          have e := amx_n (rs := (fun i => h.2.1 47 i)) h0 (Int64.not_lt.mpr c28)
          have ih1 := ih (i + 1) (by omega) (by omega)
          rw [e] at ih1
          exact ih1
        · refine kx_iload_n (pc := 31) (kx_dd d_Fu_greatestRest 20 rfl) rfl rfl ?_
          refine kx_istore_ne (pc := 32) (lv' := [_, _, _, _]) (kx_dd d_Fu_greatestRest 21 rfl) rfl (Nat.le_of_ble_eq_true rfl) rfl ?_
          refine kx_iinc_e (pc := 33) (v := nI (i + 1)) (lv' := [_, _, _, _]) (kx_dd d_Fu_greatestRest 22 rfl) rfl (Nat.le_of_ble_eq_true rfl) (nI_1 i) rfl ?_
          refine kx_goto (pc := 36) (tgt := 4) (kx_dd d_Fu_greatestRest 23 rfl) rfl ?_
          rw [lg_cmp_le] at c28
          have e := amx_y (rs := (fun i => h.2.1 47 i)) h0 (Int64.not_le.mp c28)
          have ih1 := ih (i + 1) (by omega) (by omega)
          rw [e] at ih1
          exact ih1
theorem x_Fu_greatestRest {l : Launch} {g : kx_G} {d : Nat} {h : kx_Mem} (hs : SC h) (n : Nat) (hn : n ≤ 60) (h0 : 0 < n) : kx_Sp l g m_Fu_greatestRest [.ref 45, .int (nI n)] h (d) 0 0 (fun v h' => v = some (.int (nI (amx (fun i => h.2.1 47 i) n))) ∧ h' = h) := by
  refine kx_enter_e (lv := [_, _, _, _]) (by decide +kernel) (Nat.le_of_ble_eq_true rfl) rfl ?_
  refine kx_iconst (pc := 0) (v := 0) (kx_dd d_Fu_greatestRest 0 rfl) rfl ?_
  refine kx_istore_ne (pc := 1) (lv' := [_, _, _, _]) (kx_dd d_Fu_greatestRest 1 rfl) rfl (Nat.le_of_ble_eq_true rfl) rfl ?_
  refine kx_iconst (pc := 2) (v := 1) (kx_dd d_Fu_greatestRest 2 rfl) rfl ?_
  refine kx_istore_ne (pc := 3) (lv' := [_, _, _, _]) (kx_dd d_Fu_greatestRest 3 rfl) rfl (Nat.le_of_ble_eq_true rfl) rfl ?_
  exact x_gr_loop hs n hn (n - 1) 1 (by omega) (by decide)
def FqL (a _j : Nat) : Prop := a = 46 ∨ a = 47
def FqN (_a _j : Nat) : Prop := False
theorem x_pc2 {l : Launch} {g : kx_G} {d : Nat} (h0 : kx_Mem) (hs0 : SC h0) (S : FS3) (A : DA) (ho : DKok S.1) (hS0 : FSc3 S A h0) (M : Nat) (hI : FnI S M) (W : Nat) (hW : sumN (wtF S) S.1.2.2.1.1 = W) (hlt : S.2.1 < W) : ∀ f t, t + f = (S.2.1 - sumN (sh0 S W) S.1.2.2.1.1) → ∀ h w7 w8, kx_Fg FqN FqL h0 h → (∀ i, i < S.1.2.2.1.1 → h.2.1 46 i = lN ((rndF S.1.2.2.1.1 (sh0 S W) (rs0 S W) t).1 i) ∧ h.2.1 47 i = (rndF S.1.2.2.1.1 (sh0 S W) (rs0 S W) t).2 i) → kx_X (l, g, m_Fu_partCoin, d + 1, 0, 0, (fun v h' => v = none ∧ kx_Fg FqN FqL h0 h' ∧ ∀ i, i < S.1.2.2.1.1 → h'.2.1 46 i = lN (getF S W i))) 0 0 108 [some (.ref 45), some (.long (lN W)), none, some (.int (nI S.1.2.2.1.1)), some (.long (lN ((S.2.1 - sumN (sh0 S W) S.1.2.2.1.1) - t))), none, some (.int (nI t)), w7, w8] [] h := by
  intro f
  induction f with
  | zero =>
    intro t ht h w7 w8 hf hG
    have hs : SC h := hs0.fg hf
    have e0 : h.1 = h0.1 := by funext a j; exact hf.1 a j id
    have hp : DKc S.1 A h := hS0.1.fgx hf (fun a j z => ⟨id, by unfold FqL; omega⟩)
    have h3 : h.1 45 3 = nI S.2.1 := by rw [e0]; exact hS0.2.1
    have o1 := ho.2.2.1.1
    have hov := ov_lt hW hlt
    have hM := hI.1
    have hKM := hI.2.1
    have hWl := wtS_le ho S.1.2.2.1.1 (Nat.le_refl _)
    have et : t = (S.2.1 - sumN (sh0 S W) S.1.2.2.1.1) := by omega
    have hg : getF S W = (rndF S.1.2.2.1.1 (sh0 S W) (rs0 S W) t).1 := by unfold getF; rw [if_neg (by omega), ← et]
    have hz : (S.2.1 - sumN (sh0 S W) S.1.2.2.1.1) - t = 0 := by omega
    rw [hz]
    refine kx_iload (pc := 108) (kx_dd d_Fu_partCoin 58 rfl) rfl ?_
    refine kx_iload_n (pc := 110) (kx_dd d_Fu_partCoin 59 rfl) rfl rfl ?_
    refine kx_icmp_ge (pc := 111) (tgt := 161) (kx_dd d_Fu_partCoin 60 rfl) rfl (fun c111 => ?_) (fun c111 => ?_)
    · exact absurd c111 (nI_ge (by omega) (by omega))
    · refine kx_lload (pc := 114) (kx_dd d_Fu_partCoin 61 rfl) rfl ?_
      refine kx_lconst (pc := 116) (v := 0) (kx_dd d_Fu_partCoin 62 rfl) rfl ?_
      refine kx_lcmp (pc := 117) (kx_dd d_Fu_partCoin 63 rfl) ?_
      refine kx_if_le (pc := 118) (tgt := 161) (kx_dd d_Fu_partCoin 64 rfl) rfl (fun c118 => ?_) (fun c118 => ?_)
      · refine kx_vret (pc := 161) rfl (kx_dd d_Fu_partCoin 88 rfl) (Nat.le_refl _) (Nat.le_refl _) ?_
        exact ⟨rfl, hf, fun i hi => by rw [hg]; exact (hG i hi).1⟩
      · exact absurd (by decide) c118
  | succ f ih =>
    intro t ht h w7 w8 hf hG
    have hs : SC h := hs0.fg hf
    have e0 : h.1 = h0.1 := by funext a j; exact hf.1 a j id
    have hp : DKc S.1 A h := hS0.1.fgx hf (fun a j z => ⟨id, by unfold FqL; omega⟩)
    have h3 : h.1 45 3 = nI S.2.1 := by rw [e0]; exact hS0.2.1
    have o1 := ho.2.2.1.1
    have hov := ov_lt hW hlt
    have hM := hI.1
    have hKM := hI.2.1
    have hWl := wtS_le ho S.1.2.2.1.1 (Nat.le_refl _)
    have eam : amx (fun i => h.2.1 47 i) S.1.2.2.1.1 = amx (rndF S.1.2.2.1.1 (sh0 S W) (rs0 S W) t).2 S.1.2.2.1.1 := amx_c (fun i hi => (hG i hi).2)
    obtain ⟨b9, hb9⟩ : ∃ b9, amx (rndF S.1.2.2.1.1 (sh0 S W) (rs0 S W) t).2 S.1.2.2.1.1 = b9 := ⟨_, rfl⟩
    have hbl : b9 < S.1.2.2.1.1 := by rw [← hb9]; exact amx_lt _ hov.2.2
    refine kx_iload (pc := 108) (kx_dd d_Fu_partCoin 58 rfl) rfl ?_
    refine kx_iload_n (pc := 110) (kx_dd d_Fu_partCoin 59 rfl) rfl rfl ?_
    refine kx_icmp_ge (pc := 111) (tgt := 161) (kx_dd d_Fu_partCoin 60 rfl) rfl (fun c111 => ?_) (fun c111 => ?_)
    · exact absurd c111 (nI_ge (by omega) (by omega))
    · refine kx_lload (pc := 114) (kx_dd d_Fu_partCoin 61 rfl) rfl ?_
      refine kx_lconst (pc := 116) (v := 0) (kx_dd d_Fu_partCoin 62 rfl) rfl ?_
      refine kx_lcmp (pc := 117) (kx_dd d_Fu_partCoin 63 rfl) ?_
      refine kx_if_le (pc := 118) (tgt := 161) (kx_dd d_Fu_partCoin 64 rfl) rfl (fun c118 => ?_) (fun c118 => ?_)
      · exact absurd c118 (by rw [lg_cmp_le, show (0 : Int64) = lN 0 from rfl, pk_lLE (by omega) (by decide)]; omega)
      · refine kx_aload_n (pc := 121) (kx_dd d_Fu_partCoin 65 rfl) rfl rfl ?_
        refine kx_iload_n (pc := 122) (kx_dd d_Fu_partCoin 66 rfl) rfl rfl ?_
        refine kx_invV (pc := 123) (a := 45) (as := [_]) (kx_dd d_Fu_partCoin 67 rfl) ⟨lk_Fu_100, wi_Fu_greatestRest, we_Fu_greatestRest⟩ w_Fu_greatestRest (hs.k 45 rfl) rfl rfl rfl rfl (Nat.le_of_ble_eq_true rfl) (x_Fu_greatestRest (d := d) hs S.1.2.2.1.1 (by omega) hov.2.2) (Nat.le_refl _) ⟨Nat.le_refl _, Nat.le_refl _⟩ (fun v h' hq => ?_)
        obtain ⟨rfl, he⟩ := hq
        rw [he]
        clear he
        rw [eam, hb9]
        refine kx_istore_e (pc := 126) (lv' := [_, _, _, _, _, _, _, _, _]) (kx_dd d_Fu_partCoin 68 rfl) (Nat.le_of_ble_eq_true rfl) rfl ?_
        refine kx_aload_n (pc := 128) (kx_dd d_Fu_partCoin 69 rfl) rfl rfl ?_
        refine kx_getR (pc := 129) (b := 46) fl_Fu_11 (hs.k 45 rfl) rfl (hs.r 49 rfl) (kx_dd d_Fu_partCoin 70 rfl) ?_
        refine kx_iload (pc := 132) (kx_dd d_Fu_partCoin 71 rfl) rfl ?_
        refine kx_dup2 (pc := 134) (kx_dd d_Fu_partCoin 72 rfl) rfl rfl ?_
        refine kx_laldn (pc := 135) b9 (hs.t 46 rfl) rfl (by omega) (by decide) (kx_dd d_Fu_partCoin 73 rfl) ?_
        rw [(hG b9 hbl).1]
        refine kx_lconst (pc := 136) (v := 1) (kx_dd d_Fu_partCoin 74 rfl) rfl ?_
        refine kx_ladd (pc := 137) (kx_dd d_Fu_partCoin 75 rfl) ?_
        rw [lN_1]
        refine kx_lastn (pc := 138) b9 (hs.t 46 rfl) (by decide) rfl (by omega) (by decide) (kx_dd d_Fu_partCoin 76 rfl) ?_
        refine kx_aload_n (pc := 139) (kx_dd d_Fu_partCoin 77 rfl) rfl rfl ?_
        refine kx_getR (pc := 140) (b := 47) fl_Fu_17 (hs.k 45 rfl) rfl (hs.r 50 rfl) (kx_dd d_Fu_partCoin 78 rfl) ?_
        refine kx_iload (pc := 143) (kx_dd d_Fu_partCoin 79 rfl) rfl ?_
        refine kx_ldc2 (pc := 145) kl_Fu_104 (kx_dd d_Fu_partCoin 80 rfl) ?_
        refine kx_lastn (pc := 148) b9 (hs.t 47 rfl) (by decide) rfl (by omega) (by decide) (kx_dd d_Fu_partCoin 81 rfl) ?_
        refine kx_lload (pc := 149) (kx_dd d_Fu_partCoin 82 rfl) rfl ?_
        refine kx_lconst (pc := 151) (v := 1) (kx_dd d_Fu_partCoin 83 rfl) rfl ?_
        refine kx_lsub (pc := 152) (kx_dd d_Fu_partCoin 84 rfl) ?_
        rw [show (1 : Int64) = lN 1 from rfl]
        refine kx_lstore_e (pc := 153) (lv' := [_, _, _, _, _, _, _, _, _]) (kx_dd d_Fu_partCoin 85 rfl) (Nat.le_of_ble_eq_true rfl) rfl ?_
        refine kx_iinc_e (pc := 155) (v := nI (t + 1)) (lv' := [_, _, _, _, _, _, _, _, _]) (kx_dd d_Fu_partCoin 86 rfl) rfl (Nat.le_of_ble_eq_true rfl) (nI_1 t) rfl ?_
        refine kx_goto (pc := 158) (tgt := 108) (kx_dd d_Fu_partCoin 87 rfl) rfl ?_
        have e1 : rndF S.1.2.2.1.1 (sh0 S W) (rs0 S W) (t + 1) = (upF (rndF S.1.2.2.1.1 (sh0 S W) (rs0 S W) t).1 b9 ((rndF S.1.2.2.1.1 (sh0 S W) (rs0 S W) t).1 b9 + 1), upF (rndF S.1.2.2.1.1 (sh0 S W) (rs0 S W) t).2 b9 (-1)) := by rw [← hb9]; rfl
        have ih1 := ih (t + 1) (by omega)
        rw [e1] at ih1
        rw [lN_sub (by omega), show (S.2.1 - sumN (sh0 S W) S.1.2.2.1.1) - t - 1 = (S.2.1 - sumN (sh0 S W) S.1.2.2.1.1) - (t + 1) by omega]
        refine ih1 _ _ _ ((hf.tr (kx_Fg.setL (Or.inl rfl))).tr (kx_Fg.setL (Or.inr rfl))) (fun i hi => ⟨?_, ?_⟩)
        · rw [setL_ne (Or.inl (by decide))]
          show _ = lN (upF _ _ _ i)
          unfold upF
          by_cases e : i = b9
          · rw [if_pos e, e, setL_at]
          · rw [if_neg e, setL_ne (Or.inr e)]; exact (hG i hi).1
        · show _ = upF _ _ _ i
          unfold upF
          by_cases e : i = b9
          · rw [if_pos e, e, setL_at]; rfl
          · rw [if_neg e, setL_ne (Or.inr e), setL_ne (Or.inl (by decide))]; exact (hG i hi).2
theorem x_pc1 {l : Launch} {g : kx_G} {d : Nat} (h0 : kx_Mem) (hs0 : SC h0) (S : FS3) (A : DA) (ho : DKok S.1) (hS0 : FSc3 S A h0) (M : Nat) (hI : FnI S M) (W : Nat) (hW : sumN (wtF S) S.1.2.2.1.1 = W) (hlt : S.2.1 < W) : ∀ f k, k + f = S.1.2.2.1.1 → ∀ h w7 w8, kx_Fg FqN FqL h0 h → (∀ i, i < k → h.2.1 46 i = lN (sh0 S W i) ∧ h.2.1 47 i = rs0 S W i) → kx_X (l, g, m_Fu_partCoin, d + 3, 0, 0, (fun v h' => v = none ∧ kx_Fg FqN FqL h0 h' ∧ ∀ i, i < S.1.2.2.1.1 → h'.2.1 46 i = lN (getF S W i))) 0 0 33 [some (.ref 45), some (.long (lN W)), none, some (.int (nI S.1.2.2.1.1)), some (.long (lN (S.2.1 - sumN (sh0 S W) k))), none, some (.int (nI k)), w7, w8] [] h := by
  intro f
  induction f with
  | zero =>
    intro k hk h w7 w8 hf hG
    have e : k = S.1.2.2.1.1 := by omega
    subst e
    have hs : SC h := hs0.fg hf
    have e0 : h.1 = h0.1 := by funext a j; exact hf.1 a j id
    have hp : DKc S.1 A h := hS0.1.fgx hf (fun a j z => ⟨id, by unfold FqL; omega⟩)
    have h3 : h.1 45 3 = nI S.2.1 := by rw [e0]; exact hS0.2.1
    have o1 := ho.2.2.1.1
    have hov := ov_lt hW hlt
    have hM := hI.1
    have hKM := hI.2.1
    have hWl := wtS_le ho S.1.2.2.1.1 (Nat.le_refl _)
    refine kx_iload (pc := 33) (kx_dd d_Fu_partCoin 18 rfl) rfl ?_
    refine kx_iload_n (pc := 35) (kx_dd d_Fu_partCoin 19 rfl) rfl rfl ?_
    refine kx_icmp_ge (pc := 36) (tgt := 105) (kx_dd d_Fu_partCoin 20 rfl) rfl (fun c36 => ?_) (fun c36 => ?_)
    · refine kx_iconst (pc := 105) (v := 0) (kx_dd d_Fu_partCoin 56 rfl) rfl ?_
      refine kx_istore_e (pc := 106) (lv' := [_, _, _, _, _, _, _, _, _]) (kx_dd d_Fu_partCoin 57 rfl) (Nat.le_of_ble_eq_true rfl) rfl ?_
      exact x_pc2 (d := d + 2) h0 hs0 S A ho hS0 M hI W hW hlt (S.2.1 - sumN (sh0 S W) S.1.2.2.1.1) 0 (by omega) h _ _ hf hG
    · exact absurd (Int32.le_refl _) c36
  | succ f ih =>
    intro k hk9 h w7 w8 hf hG
    have hs : SC h := hs0.fg hf
    have e0 : h.1 = h0.1 := by funext a j; exact hf.1 a j id
    have hp : DKc S.1 A h := hS0.1.fgx hf (fun a j z => ⟨id, by unfold FqL; omega⟩)
    have h3 : h.1 45 3 = nI S.2.1 := by rw [e0]; exact hS0.2.1
    have o1 := ho.2.2.1.1
    have hov := ov_lt hW hlt
    have hM := hI.1
    have hKM := hI.2.1
    have hWl := wtS_le ho S.1.2.2.1.1 (Nat.le_refl _)
    have hk : k < S.1.2.2.1.1 := by omega
    have q10 : cN S.1.2.2.1 k 10 ≤ 6600000 := (ho.2.2.1.2 k hk).2.2.2.2.2.2.2.2.2.2.2.1
    have hI2 := hI.2.2 k hk
    have e10 : h.1 (A.1 k) 10 = nI (cN S.1.2.2.1 k 10) := ((hp.2.2.2.2.1.2 k hk).2.2.2.1 10 (by decide) (by decide)).trans ((ho.2.2.1.2 k hk).1 10 (by decide) (by decide) (by decide) (by decide))
    have e11 : h.1 (A.1 k) 11 = nI (cN S.1.2.2.1 k 11) := ((hp.2.2.2.2.1.2 k hk).2.2.2.1 11 (by decide) (by decide)).trans hI2.1
    have wl := wtF_le ho hk
    have hml : S.2.1 * wtF S k ≤ 999999999 * 6600000 := Nat.mul_le_mul (by omega) wl
    have hsk : sumN (sh0 S W) k + sh0 S W k ≤ sumN (sh0 S W) S.1.2.2.1.1 := sumN_at hk
    refine kx_iload (pc := 33) (kx_dd d_Fu_partCoin 18 rfl) rfl ?_
    refine kx_iload_n (pc := 35) (kx_dd d_Fu_partCoin 19 rfl) rfl rfl ?_
    refine kx_icmp_ge (pc := 36) (tgt := 105) (kx_dd d_Fu_partCoin 20 rfl) rfl (fun c36 => ?_) (fun c36 => ?_)
    · exact absurd c36 (nI_ge (by omega) (by omega))
    · refine kx_aload_n (pc := 39) (kx_dd d_Fu_partCoin 21 rfl) rfl rfl ?_
      refine kx_getI (pc := 40) fl_Fu_32 (hs.k 45 rfl) rfl (kx_dd d_Fu_partCoin 22 rfl) ?_
      refine kx_i2l (pc := 43) (kx_dd d_Fu_partCoin 23 rfl) ?_
      refine kx_aload_n (pc := 44) (kx_dd d_Fu_partCoin 24 rfl) rfl rfl ?_
      refine kx_getR (pc := 45) (b := 39) fl_Fu_24 (hs.k 45 rfl) rfl (hs.r 48 rfl) (kx_dd d_Fu_partCoin 25 rfl) ?_
      refine kx_getR (pc := 48) (b := 40) fl_Fu_52 (hs.k 39 rfl) rfl (hs.r 43 rfl) (kx_dd d_Fu_partCoin 26 rfl) ?_
      refine kx_iload (pc := 51) (kx_dd d_Fu_partCoin 27 rfl) rfl ?_
      refine kx_invV (pc := 53) (a := 40) (as := [_]) (kx_dd d_Fu_partCoin 28 rfl) ⟨lk_Fu_61, wi_AL_get, we_AL_get⟩ w_AL_get (hs.k 40 rfl) rfl rfl rfl rfl (Nat.le_of_ble_eq_true rfl) (x_AL_get (d := d) 40 S.1.2.2.1.1 A.2.2.1 A.2.2.2.1 A.1 (DKc.k40 hs).1 hp.2.2.1 k hk) (Nat.le_refl _) ⟨Nat.le_refl _, Nat.le_refl _⟩ (fun v h' hq => ?_)
      obtain ⟨rfl, he⟩ := hq
      rw [he]
      clear he
      refine kx_cast (pc := 56) (ci := 1) (congrArg Prod.fst (hp.2.2.2.2.1.2 k hk).2.2.1) rfl cl_Fu_65 (kx_dd d_Fu_partCoin 29 rfl) ?_
      refine kx_invS (pc := 59) (as := [_]) (kx_dd d_Fu_partCoin 30 rfl) ⟨lk_Fu_86, wt_Fu_wantOf⟩ w_Fu_wantOf rfl rfl (Nat.le_of_ble_eq_true rfl) (x_Fu_wantOf (d := d + 1) (A.1 k) _ _ (hp.2.2.2.2.1.2 k hk).2.2.1 e10 e11 (by omega) (by omega)) (Nat.le_refl _) ⟨Nat.le_refl _, Nat.le_refl _⟩ (fun v h' hq => ?_)
      obtain ⟨rfl, he⟩ := hq
      rw [he]
      clear he
      refine kx_lmul (pc := 62) (kx_dd d_Fu_partCoin 31 rfl) ?_
      rw [h3, nI_l (by omega), show cN S.1.2.2.1 k 10 - cN S.1.2.2.1 k 11 = wtF S k from rfl, lN_mul]
      refine kx_lstore_e (pc := 63) (lv' := [_, _, _, _, _, _, _, _, _]) (kx_dd d_Fu_partCoin 32 rfl) (Nat.le_of_ble_eq_true rfl) rfl ?_
      refine kx_aload_n (pc := 65) (kx_dd d_Fu_partCoin 33 rfl) rfl rfl ?_
      refine kx_getR (pc := 66) (b := 46) fl_Fu_11 (hs.k 45 rfl) rfl (hs.r 49 rfl) (kx_dd d_Fu_partCoin 34 rfl) ?_
      refine kx_iload (pc := 69) (kx_dd d_Fu_partCoin 35 rfl) rfl ?_
      refine kx_lload (pc := 71) (kx_dd d_Fu_partCoin 36 rfl) rfl ?_
      refine kx_lload_n (pc := 73) (kx_dd d_Fu_partCoin 37 rfl) rfl rfl ?_
      refine kx_ldiv (pc := 74) (kx_dd d_Fu_partCoin 38 rfl) (by intro z; have := (pk_lEQ (b := 0) (by omega) (by decide)).mp z; omega) ?_
      rw [pk_lDiv (by omega) (by omega) (by omega), show S.2.1 * wtF S k / W = sh0 S W k from rfl]
      refine kx_lastn (pc := 75) k (hs.t 46 rfl) (by decide) rfl (by omega) (by decide) (kx_dd d_Fu_partCoin 39 rfl) ?_
      refine kx_aload_n (pc := 76) (kx_dd d_Fu_partCoin 40 rfl) rfl rfl ?_
      refine kx_getR (pc := 77) (b := 47) fl_Fu_17 (hs.k 45 rfl) rfl (hs.r 50 rfl) (kx_dd d_Fu_partCoin 41 rfl) ?_
      refine kx_iload (pc := 80) (kx_dd d_Fu_partCoin 42 rfl) rfl ?_
      refine kx_lload (pc := 82) (kx_dd d_Fu_partCoin 43 rfl) rfl ?_
      refine kx_lload_n (pc := 84) (kx_dd d_Fu_partCoin 44 rfl) rfl rfl ?_
      refine kx_lrem (pc := 85) (kx_dd d_Fu_partCoin 45 rfl) (by intro z; have := (pk_lEQ (b := 0) (by omega) (by decide)).mp z; omega) ?_
      rw [pk_lRem (by omega) (by omega) (by omega)]
      refine kx_lastn (pc := 86) k (hs.t 47 rfl) (by decide) rfl (by omega) (by decide) (kx_dd d_Fu_partCoin 46 rfl) ?_
      refine kx_lload (pc := 87) (kx_dd d_Fu_partCoin 47 rfl) rfl ?_
      refine kx_aload_n (pc := 89) (kx_dd d_Fu_partCoin 48 rfl) rfl rfl ?_
      refine kx_getR (pc := 90) (b := 46) fl_Fu_11 (hs.k 45 rfl) rfl (hs.r 49 rfl) (kx_dd d_Fu_partCoin 49 rfl) ?_
      refine kx_iload (pc := 93) (kx_dd d_Fu_partCoin 50 rfl) rfl ?_
      refine kx_laldn (pc := 95) k (hs.t 46 rfl) rfl (by omega) (by decide) (kx_dd d_Fu_partCoin 51 rfl) ?_
      rw [setL_ne (Or.inl (by decide)), setL_at]
      refine kx_lsub (pc := 96) (kx_dd d_Fu_partCoin 52 rfl) ?_
      rw [lN_sub (by omega), show S.2.1 - sumN (sh0 S W) k - sh0 S W k = S.2.1 - (sumN (sh0 S W) k + sh0 S W k) by omega]
      refine kx_lstore_e (pc := 97) (lv' := [_, _, _, _, _, _, _, _, _]) (kx_dd d_Fu_partCoin 53 rfl) (Nat.le_of_ble_eq_true rfl) rfl ?_
      refine kx_iinc_e (pc := 99) (v := nI (k + 1)) (lv' := [_, _, _, _, _, _, _, _, _]) (kx_dd d_Fu_partCoin 54 rfl) rfl (Nat.le_of_ble_eq_true rfl) (nI_1 k) rfl ?_
      refine kx_goto (pc := 102) (tgt := 33) (kx_dd d_Fu_partCoin 55 rfl) rfl ?_
      have e1 : sumN (sh0 S W) (k + 1) = sumN (sh0 S W) k + sh0 S W k := rfl
      have ih1 := ih (k + 1) (by omega)
      rw [e1] at ih1
      refine ih1 _ _ _ ((hf.tr (kx_Fg.setL (Or.inl rfl))).tr (kx_Fg.setL (Or.inr rfl))) (fun i hi => ?_)
      by_cases e : i = k
      · subst e
        exact ⟨by rw [setL_ne (Or.inl (by decide)), setL_at], by rw [setL_at]; rfl⟩
      · exact ⟨by rw [setL_ne (Or.inl (by decide)), setL_ne (Or.inr e)]; exact (hG i (by omega)).1, by rw [setL_ne (Or.inr e), setL_ne (Or.inl (by decide))]; exact (hG i (by omega)).2⟩
theorem x_Fu_partCoin {l : Launch} {g : kx_G} {d : Nat} {h : kx_Mem} (hs : SC h) (S : FS3) (A : DA) (ho : DKok S.1) (hS : FSc3 S A h) (M : Nat) (hI : FnI S M) (W : Nat) (hW : sumN (wtF S) S.1.2.2.1.1 = W) (hlt : S.2.1 < W) : kx_Sp l g m_Fu_partCoin [.ref 45, .long (lN W)] h (d + 3) 0 0 (fun v h' => v = none ∧ kx_Fg FqN FqL h h' ∧ ∀ i, i < S.1.2.2.1.1 → h'.2.1 46 i = lN (getF S W i)) := by
  have o1 := ho.2.2.1.1
  have hM := hI.1
  have hKM := hI.2.1
  have hWl := wtS_le ho S.1.2.2.1.1 (Nat.le_refl _)
  refine kx_enter_e (lv := [_, _, _, _, _, _, _, _, _]) (by decide +kernel) (Nat.le_of_ble_eq_true rfl) rfl ?_
  refine kx_lload_n (pc := 0) (kx_dd d_Fu_partCoin 0 rfl) rfl rfl ?_
  refine kx_lconst (pc := 1) (v := 0) (kx_dd d_Fu_partCoin 1 rfl) rfl ?_
  refine kx_lcmp (pc := 2) (kx_dd d_Fu_partCoin 2 rfl) ?_
  refine kx_if_gt (pc := 3) (tgt := 7) (kx_dd d_Fu_partCoin 3 rfl) rfl (fun c3 => ?_) (fun c3 => ?_)
  · refine kx_aload_n (pc := 7) (kx_dd d_Fu_partCoin 5 rfl) rfl rfl ?_
    refine kx_getR (pc := 8) (b := 39) fl_Fu_24 (hs.k 45 rfl) rfl (hs.r 48 rfl) (kx_dd d_Fu_partCoin 6 rfl) ?_
    refine kx_getR (pc := 11) (b := 40) fl_Fu_52 (hs.k 39 rfl) rfl (hs.r 43 rfl) (kx_dd d_Fu_partCoin 7 rfl) ?_
    refine kx_invV (pc := 14) (a := 40) (as := []) (kx_dd d_Fu_partCoin 8 rfl) ⟨lk_Fu_56, wi_AL_size, we_AL_size⟩ w_AL_size (hs.k 40 rfl) rfl rfl rfl rfl (Nat.le_of_ble_eq_true rfl) (x_AL_size (d := d + 2) 40 S.1.2.2.1.1 A.2.2.1 A.2.2.2.1 A.1 (DKc.k40 hs).1 hS.1.2.2.1) (Nat.le_refl _) ⟨Nat.le_refl _, Nat.le_refl _⟩ (fun v h' hq => ?_)
    obtain ⟨rfl, he⟩ := hq
    rw [he]
    clear he
    refine kx_bipush (pc := 17) (v := 60) (kx_dd d_Fu_partCoin 9 rfl) rfl ?_
    refine kx_mmin (pc := 19) mk_Fu_98 (kx_dd d_Fu_partCoin 10 rfl) (Nat.le_of_ble_eq_true rfl) (Nat.le_of_ble_eq_true rfl) (Nat.le_refl _) (Nat.le_refl _) ?_
    rw [show (60 : Int32) = nI 60 from rfl, minI (by omega) (by omega), show (if 60 < S.1.2.2.1.1 then 60 else S.1.2.2.1.1) = S.1.2.2.1.1 from if_neg (by omega)]
    refine kx_istore_ne (pc := 22) (lv' := [_, _, _, _, _, _, _, _, _]) (kx_dd d_Fu_partCoin 11 rfl) rfl (Nat.le_of_ble_eq_true rfl) rfl ?_
    refine kx_aload_n (pc := 23) (kx_dd d_Fu_partCoin 12 rfl) rfl rfl ?_
    refine kx_getI (pc := 24) fl_Fu_32 (hs.k 45 rfl) rfl (kx_dd d_Fu_partCoin 13 rfl) ?_
    refine kx_i2l (pc := 27) (kx_dd d_Fu_partCoin 14 rfl) ?_
    rw [hS.2.1, nI_l (by omega)]
    refine kx_lstore_e (pc := 28) (lv' := [_, _, _, _, _, _, _, _, _]) (kx_dd d_Fu_partCoin 15 rfl) (Nat.le_of_ble_eq_true rfl) rfl ?_
    refine kx_iconst (pc := 30) (v := 0) (kx_dd d_Fu_partCoin 16 rfl) rfl ?_
    refine kx_istore_e (pc := 31) (lv' := [_, _, _, _, _, _, _, _, _]) (kx_dd d_Fu_partCoin 17 rfl) (Nat.le_of_ble_eq_true rfl) rfl ?_
    exact x_pc1 h hs S A ho hS M hI W hW hlt S.1.2.2.1.1 0 (by omega) h _ _ kx_Fg.rf (fun i hi => absurd hi (Nat.not_lt_zero i))
  · exact absurd (by rw [lg_gt, show (0 : Int64) = lN 0 from rfl, pk_lLT (by decide) (by omega)]; omega) c3

