/-! tokens, and the class: Tape (object 1, bytes 2) -/
def isBl (x : Int32) : Bool := decide (x = 32 ∨ x = 10)
def isLe (x : Int32) : Bool := decide (97 ≤ x ∧ x ≤ 122)
def isDi (x : Int32) : Bool := decide (48 ≤ x ∧ x ≤ 57)
theorem isBl_i {x : Int32} : isBl x = true ↔ x = 32 ∨ x = 10 := decide_eq_true_iff
theorem isLe_i {x : Int32} : isLe x = true ↔ 97 ≤ x ∧ x ≤ 122 := decide_eq_true_iff
theorem isDi_i {x : Int32} : isDi x = true ↔ 48 ≤ x ∧ x ≤ 57 := decide_eq_true_iff
def runN (P : Int32 → Bool) (b : Nat → Int32) : Nat → Nat → Nat
  | 0, i => i
  | f + 1, i => if P (b i) then runN P b f (i + 1) else i
/-- where a run of such bytes that begins at i ends -/
def run (P : Int32 → Bool) (b : Nat → Int32) (n i : Nat) : Nat := runN P b (n - i) i
section RUN
variable {P : Int32 → Bool} {b : Nat → Int32} {n : Nat}
theorem run_end {i : Nat} (h : n ≤ i) : run P b n i = i := by
  unfold run
  rw [show n - i = 0 by omega]
  rfl
theorem run_yes {i : Nat} (h : i < n) (hp : P (b i)) : run P b n i = run P b n (i + 1) := by
  unfold run
  rw [show n - i = (n - (i + 1)) + 1 by omega]
  exact if_pos hp
theorem run_no {i : Nat} (hp : ¬ P (b i)) : run P b n i = i := by
  unfold run
  cases n - i with
  | zero => rfl
  | succ k => exact if_neg hp
theorem run_ind {i : Nat} (h : i ≤ n) {C : Nat → Prop} (hn : C n) (h0 : ∀ k, i ≤ k → k < n → ¬ P (b k) → run P b n k = k → C k) (h1 : ∀ k, i ≤ k → k < n → P (b k) → C (k + 1) → C k) : C i := by
  obtain ⟨f, hf⟩ : ∃ f, i + f = n := ⟨n - i, by omega⟩
  have : ∀ f k, k + f = n → i ≤ k → C k := by
    intro f
    induction f with
    | zero => intro k hk _; rw [show k = n by omega]; exact hn
    | succ f ih =>
      intro k hk hik
      by_cases hp : P (b k)
      · exact h1 k hik (by omega) hp (ih (k + 1) (by omega) (by omega))
      · exact h0 k hik (by omega) hp (run_no hp)
  exact this f i hf (Nat.le_refl _)
theorem run_le {i : Nat} (h : i ≤ n) : i ≤ run P b n i ∧ run P b n i ≤ n := by
  refine run_ind (P := P) (b := b) (n := n) h (C := fun k => k ≤ run P b n k ∧ run P b n k ≤ n) ?_ ?_ ?_
  · simp [run_end (Nat.le_refl n)]
  · intro k _ hk hp e; rw [e]; omega
  · intro k _ hk hp ih; rw [run_yes hk hp]; omega
theorem run_all {i : Nat} (h : i ≤ n) : ∀ j, i ≤ j → j < run P b n i → P (b j) := by
  refine run_ind (P := P) (b := b) (n := n) h (C := fun k => ∀ j, k ≤ j → j < run P b n k → P (b j)) ?_ ?_ ?_
  · intro j h1 h2; rw [run_end (Nat.le_refl n)] at h2; omega
  · intro k _ hk hp e j h1 h2; rw [e] at h2; omega
  · intro k _ hk hp ih j h1 h2
    rw [run_yes hk hp] at h2
    by_cases e : j = k
    · rw [e]; exact hp
    · exact ih j (by omega) h2
theorem run_stop {i : Nat} (h : i ≤ n) : run P b n i < n → ¬ P (b (run P b n i)) := by
  refine run_ind (P := P) (b := b) (n := n) h (C := fun k => run P b n k < n → ¬ P (b (run P b n k))) ?_ ?_ ?_
  · intro h; rw [run_end (Nat.le_refl n)] at h; omega
  · intro k _ hk hp e _; rw [e]; exact hp
  · intro k _ hk hp ih; rw [run_yes hk hp]; exact ih
end RUN
/-- a token: its first byte, its end, which it is -/
def tP (b : Nat → Int32) (n i : Nat) : Nat := run isBl b n i
def tE (b : Nat → Int32) (n i : Nat) : Nat :=
  if n ≤ tP b n i then tP b n i else if isLe (b (tP b n i)) then run isLe b n (tP b n i) else if isDi (b (tP b n i)) then run isDi b n (tP b n i) else tP b n i + 1
def tK (b : Nat → Int32) (n i : Nat) : Nat :=
  if n ≤ tP b n i then 0 else if isLe (b (tP b n i)) then (if 12 < tE b n i - tP b n i then 4 else 1) else if isDi (b (tP b n i)) then (if 4 < tE b n i - tP b n i then 4 else 2) else if b (tP b n i) = 59 then 3 else 4
theorem tP_le {b : Nat → Int32} {n i : Nat} (h : i ≤ n) : i ≤ tP b n i ∧ tP b n i ≤ n := run_le h
theorem tE_le {b : Nat → Int32} {n i : Nat} (h : i ≤ n) : tP b n i ≤ tE b n i ∧ tE b n i ≤ n ∧ (tP b n i < n → tP b n i < tE b n i) := by
  have h0 := tP_le (b := b) h
  unfold tE
  by_cases c1 : n ≤ tP b n i
  · rw [if_pos c1]; omega
  · rw [if_neg c1]
    by_cases c2 : isLe (b (tP b n i))
    · rw [if_pos c2, run_yes (by omega) c2]
      have := run_le (P := isLe) (b := b) (n := n) (i := tP b n i + 1) (by omega)
      omega
    · rw [if_neg c2]
      by_cases c3 : isDi (b (tP b n i))
      · rw [if_pos c3, run_yes (by omega) c3]
        have := run_le (P := isDi) (b := b) (n := n) (i := tP b n i + 1) (by omega)
        omega
      · rw [if_neg c3]; omega
/-- what the letters say: five bits each -/
def wl (b : Nat → Int32) (p : Nat) : Nat → Int64
  | 0 => 0
  | k + 1 => (wl b p k <<< ((5 : Int32).toInt64 &&& 63)) ||| (b (p + k) - 97 + 1).toInt64
def wc (b : Nat → Int32) (p : Nat) : Nat → Nat
  | 0 => 0
  | k + 1 => wc b p k * 32 + ((b (p + k)).toNatClampNeg - 96)
theorem lN_or {a b : Nat} : lN a ||| lN b = lN (a ||| b) := by
  apply Int64.toBitVec_inj.1
  show BitVec.ofNat 64 a ||| BitVec.ofNat 64 b = BitVec.ofNat 64 (a ||| b)
  exact BitVec.ofNat_or.symm
theorem lN_and {a b : Nat} : lN a &&& lN b = lN (a &&& b) := by
  apply Int64.toBitVec_inj.1
  show BitVec.ofNat 64 a &&& BitVec.ofNat 64 b = BitVec.ofNat 64 (a &&& b)
  exact BitVec.ofNat_and.symm
theorem lN_sh {m k : Nat} (s : Int64) (hs : (s.toBitVec.smod 64).toNat = k) : lN m <<< s = lN (m * 2 ^ k) := by
  apply Int64.toBitVec_inj.1
  apply BitVec.eq_of_toNat_eq
  show (BitVec.ofNat 64 m <<< (s.toBitVec.smod 64).toNat).toNat = (BitVec.ofNat 64 (m * 2 ^ k)).toNat
  rw [hs, BitVec.toNat_shiftLeft, Nat.shiftLeft_eq, BitVec.toNat_ofNat, BitVec.toNat_ofNat, Nat.mod_mul_mod]
theorem le_nat {x : Int32} (h : isLe x) : ∃ m : Nat, 97 ≤ m ∧ m ≤ 122 ∧ x = nI m := by
  replace h := isLe_i.mp h
  have h0 : ¬ x < 0 := by
    have := h.1
    rw [Int32.lt_iff_toInt_lt]
    rw [Int32.le_iff_toInt_le] at this
    have e : (97 : Int32).toInt = 97 := by decide
    have e0 : (0 : Int32).toInt = 0 := by decide
    omega
  obtain ⟨j, hj, rfl⟩ := nI_of h0
  exact ⟨j, (nI_leI (a := 97) (by decide) hj).mp h.1, (nI_leI (b := 122) hj (by decide)).mp h.2, rfl⟩
theorem di_nat {x : Int32} (h : isDi x) : ∃ m : Nat, 48 ≤ m ∧ m ≤ 57 ∧ x = nI m := by
  replace h := isDi_i.mp h
  have h0 : ¬ x < 0 := by
    have := h.1
    rw [Int32.lt_iff_toInt_lt]
    rw [Int32.le_iff_toInt_le] at this
    have e : (48 : Int32).toInt = 48 := by decide
    have e0 : (0 : Int32).toInt = 0 := by decide
    omega
  obtain ⟨j, hj, rfl⟩ := nI_of h0
  exact ⟨j, (nI_leI (a := 48) (by decide) hj).mp h.1, (nI_leI (b := 57) hj (by decide)).mp h.2, rfl⟩
theorem wc_lt {b : Nat → Int32} {p : Nat} : ∀ k, (∀ j, j < k → isLe (b (p + j))) → wc b p k < 32 ^ k
  | 0, _ => by simp [wc]
  | k + 1, h => by
    have ih := wc_lt (b := b) (p := p) k (fun j hj => h j (by omega))
    obtain ⟨m, m1, m2, e⟩ := le_nat (h k (by omega))
    unfold wc
    rw [e, nI_clamp (by omega), Nat.pow_succ]
    omega
theorem withL {m c : Nat} (h1 : 97 ≤ c) (h2 : c ≤ 122) : (lN m <<< ((5 : Int32).toInt64 &&& 63)) ||| (nI c - 97 + 1).toInt64 = lN (m * 32 + (c - 96)) := by
  have e1 : nI c - 97 + 1 = nI (c - 96) := by
    rw [show (97 : Int32) = nI 97 from rfl, pk_sub h1, nI_1, show c - 97 + 1 = c - 96 by omega]
  rw [e1, nI_l (by omega), lN_sh (k := 5) _ (by decide), lN_or]
  congr 1
  have := Nat.two_pow_add_eq_or_of_lt (i := 5) (b := c - 96) (by omega) m
  rw [Nat.mul_comm]
  exact this.symm
theorem wl_wc {b : Nat → Int32} {p : Nat} : ∀ k, (∀ j, j < k → isLe (b (p + j))) → wl b p k = lN (wc b p k)
  | 0, _ => rfl
  | k + 1, h => by
    have ih := wl_wc (b := b) (p := p) k (fun j hj => h j (by omega))
    obtain ⟨m, m1, m2, e⟩ := le_nat (h k (by omega))
    unfold wl wc
    rw [ih, e, withL m1 m2, nI_clamp (by omega)]
def nl (b : Nat → Int32) (p : Nat) : Nat → Int32
  | 0 => 0
  | k + 1 => nl b p k * 10 + b (p + k) - 48
def nv (b : Nat → Int32) (p : Nat) : Nat → Nat
  | 0 => 0
  | k + 1 => nv b p k * 10 + ((b (p + k)).toNatClampNeg - 48)
theorem nv_lt {b : Nat → Int32} {p : Nat} : ∀ k, (∀ j, j < k → isDi (b (p + j))) → nv b p k < 10 ^ k
  | 0, _ => by simp [nv]
  | k + 1, h => by
    have ih := nv_lt (b := b) (p := p) k (fun j hj => h j (by omega))
    obtain ⟨m, m1, m2, e⟩ := di_nat (h k (by omega))
    unfold nv
    rw [e, nI_clamp (by omega), Nat.pow_succ]
    omega
theorem nl_nv {b : Nat → Int32} {p : Nat} : ∀ k, (∀ j, j < k → isDi (b (p + j))) → nl b p k = nI (nv b p k)
  | 0, _ => rfl
  | k + 1, h => by
    have ih := nl_nv (b := b) (p := p) k (fun j hj => h j (by omega))
    obtain ⟨m, m1, m2, e⟩ := di_nat (h k (by omega))
    unfold nl nv
    rw [ih, e, nI_clamp (by omega), show (10 : Int32) = nI 10 from rfl, pk_mul, nI_add, show (48 : Int32) = nI 48 from rfl, pk_sub (by omega)]
    congr 1
    omega
/-- a word's code, a number's value -/
def tW (b : Nat → Int32) (n i : Nat) : Nat := wc b (tP b n i) (tE b n i - tP b n i)
def tV (b : Nat → Int32) (n i : Nat) : Nat := nv b (tP b n i) (tE b n i - tP b n i)
/-- only some ints and some longs have changed -/
def kx_Fg (P L : Nat → Nat → Prop) (h h' : kx_Mem) : Prop := (∀ a j, ¬ P a j → h'.1 a j = h.1 a j) ∧ (∀ a j, ¬ L a j → h'.2.1 a j = h.2.1 a j) ∧ h'.2.2 = h.2.2
theorem kx_Fg.rf {P L : Nat → Nat → Prop} {h : kx_Mem} : kx_Fg P L h h := ⟨fun _ _ _ => rfl, fun _ _ _ => rfl, rfl⟩
theorem kx_Fg.tr {P L : Nat → Nat → Prop} {h h1 h2 : kx_Mem} (a : kx_Fg P L h h1) (b : kx_Fg P L h1 h2) : kx_Fg P L h h2 := ⟨fun x j hx => (b.1 x j hx).trans (a.1 x j hx), fun x j hx => (b.2.1 x j hx).trans (a.2.1 x j hx), b.2.2.trans a.2.2⟩
theorem kx_Fg.mono {P L P' L' : Nat → Nat → Prop} {h h1 : kx_Mem} (a : kx_Fg P L h h1) (hP : ∀ a j, P a j → P' a j) (hL : ∀ a j, L a j → L' a j) : kx_Fg P' L' h h1 := ⟨fun x j hx => a.1 x j (fun z => hx (hP x j z)), fun x j hx => a.2.1 x j (fun z => hx (hL x j z)), a.2.2⟩
theorem kx_Fg.setI {P L : Nat → Nat → Prop} {h : kx_Mem} {a j : Nat} {v : Int32} (ha : P a j) : kx_Fg P L h (kx_setI h a j v) := ⟨(kx_Fc.set (P := P) (h := h) (v := v) ha).2, fun _ _ _ => rfl, rfl⟩
theorem kx_Fg.setL {P L : Nat → Nat → Prop} {h : kx_Mem} {a j : Nat} {v : Int64} (ha : L a j) : kx_Fg P L h (kx_setL h a j v) := ⟨fun _ _ _ => rfl, fun b i hb => by
  show kx_up h.2.1 a j v b i = h.2.1 b i
  unfold kx_up
  split
  next e =>
    split
    next e' => rw [e, e'] at hb; exact absurd ha hb
    next => rfl
  next => rfl, rfl⟩
theorem kx_Fc.g {P L : Nat → Nat → Prop} {h h' : kx_Mem} (a : kx_Fc P h h') : kx_Fg P L h h' := ⟨a.2, fun _ _ _ => by rw [a.1], by rw [a.1]⟩
theorem kx_SS.fg {R T : List (Nat × Nat × Nat)} {P L : Nat → Nat → Prop} {h h' : kx_Mem} (hs : kx_SS R T h) (hf : kx_Fg P L h h') : kx_SS R T h' := by
  unfold kx_SS
  rw [hf.2.2]
  exact hs
/-- the tape as the class holds it; the token read last -/
def BY (b : Nat → Int32) : Prop := ∀ k, (b k).toInt8.toInt32 = b k
def TapC (b : Nat → Int32) (n : Nat) (h : kx_Mem) : Prop := h.1 1 1 = nI n ∧ n ≤ 600 ∧ ∀ k, k < n → h.1 2 k = b k
def TokC (b : Nat → Int32) (n i : Nat) (h : kx_Mem) : Prop := h.1 1 2 = nI (tE b n i) ∧ h.1 1 3 = nI (tK b n i) ∧ h.1 1 4 = nI (tP b n i) ∧ (tK b n i = 1 → h.2.1 1 6 = lN (tW b n i)) ∧ (tK b n i = 2 → h.1 1 5 = nI (tV b n i))
def FtI (a j : Nat) : Prop := a = 1 ∧ 2 ≤ j ∧ j ≤ 5
def FtL (a j : Nat) : Prop := a = 1 ∧ j = 6
abbrev kx_Ft (h h' : kx_Mem) : Prop := kx_Fg FtI FtL h h'
theorem TapC.ft {b : Nat → Int32} {n : Nat} {h h' : kx_Mem} (ht : TapC b n h) (hf : kx_Ft h h') : TapC b n h' := ⟨(hf.1 1 1 (by simp [FtI])).trans ht.1, ht.2.1, fun k hk => (hf.1 2 k (by simp [FtI])).trans (ht.2.2 k hk)⟩
/-- four bytes of an int, in their order -/
def by4 (v : Int32) (k : Nat) : Int32 := (v >>> (nI (24 - 8 * k) &&& 31)).toInt8.toInt32
theorem BY4 (v : Int32) (k : Nat) : (by4 v k).toInt8.toInt32 = by4 v k := by unfold by4; simp
theorem nI_8 {m : Nat} (h : 8 ≤ m) : nI m + Int32.ofInt (-8) = nI (m - 8) := by
  rw [show Int32.ofInt (-8) = -nI 8 by decide, ← Int32.sub_eq_add_neg, pk_sub h]
def sh8 (k : Nat) : Int32 := if k = 4 then -8 else nI (24 - 8 * k)
theorem sh8_n {k : Nat} (h : k < 4) : sh8 k = nI (24 - 8 * k) := if_neg (by omega)
theorem sh8_s {k : Nat} (h : k < 4) : sh8 k + Int32.ofInt (-8) = sh8 (k + 1) := by
  rw [sh8_n h]
  rcases (show k = 3 ∨ k < 3 by omega) with e | e
  · subst e; decide
  · rw [sh8_n (by omega), nI_8 (by omega), show 24 - 8 * k - 8 = 24 - 8 * (k + 1) by omega]
def ext4 (b : Nat → Int32) (n : Nat) (v : Int32) : Nat → Int32 := fun j => if n ≤ j ∧ j < n + 4 then by4 v (j - n) else b j
theorem x_Ta_put_loop {l : Launch} {g : kx_G} {d : Nat} {h0 : kx_Mem} (hs0 : SC h0) (b : Nat → Int32) (n : Nat) (w : Int32) (hn : n + 4 ≤ 600) : ∀ f k, k + f = 4 → ∀ h, kx_Fc (fun a j => a = 2 ∨ (a = 1 ∧ j = 1)) h0 h → h.1 1 1 = nI (n + k) → (∀ j, j < n + k → h.1 2 j = ext4 b n w j) → kx_X (l, g, m_Ta_put, d, 0, 0, (fun v h' => v = none ∧ h'.1 1 1 = nI (n + 4) ∧ (∀ j, j < n + 4 → h'.1 2 j = ext4 b n w j) ∧ kx_Fc (fun a j => a = 2 ∨ (a = 1 ∧ j = 1)) h0 h')) 0 0 3 [some (.ref 1), some (.int w), some (.int (sh8 k))] [] h := by
  intro f
  induction f with
  | zero =>
    intro k hk h hf h1 h2
    have hk4 : k = 4 := by omega
    subst hk4
    have hs := hs0.fc hf
    refine kx_iload_n (pc := 3) (kx_dd d_Ta_put 2 rfl) rfl rfl ?_
    refine kx_if_lt (pc := 4) (tgt := 46) (kx_dd d_Ta_put 3 rfl) rfl (fun c4 => ?_) (fun c4 => ?_)
    · refine kx_vret (pc := 46) rfl (kx_dd d_Ta_put 25 rfl) (Nat.le_refl _) (Nat.le_refl _) ?_
      exact ⟨rfl, h1, h2, hf⟩
    · exact absurd (show (-8 : Int32) < 0 by decide) c4
  | succ f ih =>
    intro k hk h hf h1 h2
    have hs := hs0.fc hf
    have es := sh8_n (show k < 4 by omega)
    refine kx_iload_n (pc := 3) (kx_dd d_Ta_put 2 rfl) rfl rfl ?_
    refine kx_if_lt (pc := 4) (tgt := 46) (kx_dd d_Ta_put 3 rfl) rfl (fun c4 => ?_) (fun c4 => ?_)
    · exact absurd c4 (by rw [es]; exact nI_pos (by omega))
    · refine kx_aload_n (pc := 7) (kx_dd d_Ta_put 4 rfl) rfl rfl ?_
      refine kx_getI (pc := 8) fl_Ta_15 (hs.k 1 rfl) rfl (kx_dd d_Ta_put 5 rfl) ?_
      refine kx_sipush (pc := 11) (v := 600) (kx_dd d_Ta_put 6 rfl) rfl ?_
      refine kx_icmp_ge (pc := 14) (tgt := 46) (kx_dd d_Ta_put 7 rfl) rfl (fun c14 => ?_) (fun c14 => ?_)
      · exact absurd c14 (by rw [h1]; exact nI_ge (b := 600) (by omega) (by decide))
      · refine kx_aload_n (pc := 17) (kx_dd d_Ta_put 8 rfl) rfl rfl ?_
        refine kx_getR (pc := 18) (b := 2) fl_Ta_11 (hs.k 1 rfl) rfl (hs.r 9 rfl) (kx_dd d_Ta_put 9 rfl) ?_
        refine kx_aload_n (pc := 21) (kx_dd d_Ta_put 10 rfl) rfl rfl ?_
        refine kx_getI (pc := 22) fl_Ta_15 (hs.k 1 rfl) rfl (kx_dd d_Ta_put 11 rfl) ?_
        refine kx_iload_n (pc := 25) (kx_dd d_Ta_put 12 rfl) rfl rfl ?_
        refine kx_iload_n (pc := 26) (kx_dd d_Ta_put 13 rfl) rfl rfl ?_
        refine kx_ishr (pc := 27) (kx_dd d_Ta_put 14 rfl) ?_
        refine kx_i2b (pc := 28) (kx_dd d_Ta_put 15 rfl) ?_
        refine kx_bastn (pc := 29) (n + k) (hs.t 2 rfl) (by decide) h1 (by omega) (by decide) (kx_dd d_Ta_put 16 rfl) ?_
        refine kx_aload_n (pc := 30) (kx_dd d_Ta_put 17 rfl) rfl rfl ?_
        refine kx_dup (pc := 31) (kx_dd d_Ta_put 18 rfl) rfl ?_
        refine kx_getI (pc := 32) fl_Ta_15 (hs.k 1 rfl) rfl (kx_dd d_Ta_put 19 rfl) ?_
        refine kx_iconst (pc := 35) (v := 1) (kx_dd d_Ta_put 20 rfl) rfl ?_
        refine kx_iadd (pc := 36) (kx_dd d_Ta_put 21 rfl) ?_
        refine kx_putI (pc := 37) fl_Ta_15 (hs.k 1 rfl) (by decide) rfl rfl (kx_dd d_Ta_put 22 rfl) ?_
        refine kx_iinc_e (pc := 40) (v := sh8 (k + 1)) (lv' := [_, _, _]) (kx_dd d_Ta_put 23 rfl) rfl (Nat.le_of_ble_eq_true rfl) (sh8_s (by omega)) rfl ?_
        refine kx_goto (pc := 43) (tgt := 3) (kx_dd d_Ta_put 24 rfl) rfl ?_
        have e1 : (vp_nar .byte (w >>> (sh8 k &&& 31)).toInt8.toInt32) = by4 w k := by rw [es]; exact pk_vb _
        rw [e1, show (kx_setI h 2 (n + k) (by4 w k)).1 1 1 = nI (n + k) from h1, nI_1]
        refine ih (k + 1) (by omega) _ ((hf.tr (kx_Fc.set (Or.inl rfl))).tr (kx_Fc.set (Or.inr ⟨rfl, rfl⟩))) ?_ ?_
        · simp [kx_setI, kx_up, Nat.add_assoc]
        · intro j hj
          have := h2 j
          simp only [kx_setI, kx_up, ext4] at this ⊢
          grind
theorem x_Ta_put {l : Launch} {g : kx_G} {d : Nat} {h : kx_Mem} (hs0 : SC h) (b : Nat → Int32) (n : Nat) (w : Int32) (hn : n + 4 ≤ 600) (h1 : h.1 1 1 = nI n) (h2 : ∀ j, j < n → h.1 2 j = b j) : kx_Sp l g m_Ta_put [.ref 1, .int w] h (d) 0 0 (fun v h' => v = none ∧ h'.1 1 1 = nI (n + 4) ∧ (∀ j, j < n + 4 → h'.1 2 j = ext4 b n w j) ∧ kx_Fc (fun a j => a = 2 ∨ (a = 1 ∧ j = 1)) h h') := by
  refine kx_enter_e (lv := [_, _, _]) (by decide +kernel) (Nat.le_of_ble_eq_true rfl) rfl ?_
  refine kx_bipush (pc := 0) (v := 24) (kx_dd d_Ta_put 0 rfl) rfl ?_
  refine kx_istore_ne (pc := 2) (lv' := [_, _, _]) (kx_dd d_Ta_put 1 rfl) rfl (Nat.le_of_ble_eq_true rfl) rfl ?_
  refine x_Ta_put_loop hs0 b n w hn 4 0 (by omega) h kx_Fc.rf h1 (fun j hj => ?_)
  rw [h2 j hj]
  exact (if_neg (by omega)).symm
