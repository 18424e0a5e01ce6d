/-! the class: Docket.dueOf -/
/-- parting a sum among some -/
def aK (I : Nat → Bool) (am : Nat → Nat) : Nat → Nat
  | 0 => 0
  | k + 1 => if I k then aK I am k + am k else aK I am k
def qK (I : Nat → Bool) (am : Nat → Nat) (L A : Nat) : Nat → Nat
  | 0 => 0
  | k + 1 => if I k then qK I am L A k + L * am k / A else qK I am L A k
def cK (I : Nat → Bool) : Nat → Nat
  | 0 => 0
  | k + 1 => if I k then cK I k + 1 else cK I k
def newS (I : Nat → Bool) (am : Nat → Nat) (n L c : Nat) : Nat := if aK I am n ≤ L then am c else L * am c / aK I am n + (if cK I c < L - qK I am L (aK I am n) n then 1 else 0)
def newL (I : Nat → Bool) (am : Nat → Nat) (n L : Nat) : Nat := if aK I am n ≤ L then L - aK I am n else 0
theorem aK_le {I : Nat → Bool} {am : Nat → Nat} {M : Nat} : ∀ k, (∀ c, c < k → am c ≤ M) → aK I am k ≤ M * k
  | 0, _ => Nat.le_refl _
  | k + 1, h => by
    have := aK_le (I := I) k (fun c hc => h c (by omega))
    have := h k (by omega)
    unfold aK
    rw [Nat.mul_succ]
    split <;> omega
theorem aK_mono {I : Nat → Bool} {am : Nat → Nat} {k : Nat} : ∀ n, k ≤ n → aK I am k ≤ aK I am n := by
  intro n
  induction n with
  | zero => intro h; rw [show k = 0 by omega]; exact Nat.le_refl _
  | succ n ih =>
    intro h
    by_cases e : k = n + 1
    · rw [e]; exact Nat.le_refl _
    · refine Nat.le_trans (ih (by omega)) ?_
      show aK I am n ≤ (if I n then aK I am n + am n else aK I am n)
      split <;> omega
theorem aK_in {I : Nat → Bool} {am : Nat → Nat} {c n : Nat} (hc : c < n) (hI : I c = true) : am c ≤ aK I am n := by
  have h1 : aK I am (c + 1) = aK I am c + am c := if_pos hI
  have := aK_mono (I := I) (am := am) (k := c + 1) n hc
  omega
theorem qK_mono {I : Nat → Bool} {am : Nat → Nat} {L A k : Nat} : ∀ n, k ≤ n → qK I am L A k ≤ qK I am L A n := by
  intro n
  induction n with
  | zero => intro h; rw [show k = 0 by omega]; exact Nat.le_refl _
  | succ n ih =>
    intro h
    by_cases e : k = n + 1
    · rw [e]; exact Nat.le_refl _
    · refine Nat.le_trans (ih (by omega)) ?_
      show qK I am L A n ≤ (if I n then qK I am L A n + L * am n / A else qK I am L A n)
      split
      · exact Nat.le_add_right _ _
      · exact Nat.le_refl _
theorem qK_in {I : Nat → Bool} {am : Nat → Nat} {L A c n : Nat} (hc : c < n) (hI : I c = true) : L * am c / A ≤ qK I am L A n := by
  have h1 : qK I am L A (c + 1) = qK I am L A c + L * am c / A := if_pos hI
  have := qK_mono (I := I) (am := am) (L := L) (A := A) (k := c + 1) n hc
  omega
theorem qK_b {I : Nat → Bool} {am : Nat → Nat} {L A : Nat} (hA : 0 < A) : ∀ k, qK I am L A k * A ≤ L * aK I am k ∧ L * aK I am k ≤ qK I am L A k * A + cK I k * (A - 1)
  | 0 => by simp [qK, aK, cK]
  | k + 1 => by
    have ih := qK_b (I := I) (am := am) (L := L) hA k
    unfold qK aK cK
    split
    · have h1 := Nat.div_mul_le_self (L * am k) A
      have h2 := Nat.lt_div_mul_add hA (a := L * am k)
      rw [Nat.add_mul, Nat.mul_add, Nat.add_mul, Nat.one_mul]
      omega
    · exact ih
theorem cK_le {I : Nat → Bool} : ∀ k, cK I k ≤ k
  | 0 => Nat.le_refl _
  | k + 1 => by
    have := cK_le (I := I) k
    unfold cK
    split <;> omega
theorem cK_mono {I : Nat → Bool} {k : Nat} : ∀ n, k ≤ n → cK I k ≤ cK I n := by
  intro n
  induction n with
  | zero => intro h; rw [show k = 0 by omega]; exact Nat.le_refl _
  | succ n ih =>
    intro h
    by_cases e : k = n + 1
    · rw [e]; exact Nat.le_refl _
    · refine Nat.le_trans (ih (by omega)) ?_
      show cK I n ≤ (if I n then cK I n + 1 else cK I n)
      split <;> omega
theorem rest_ok {I : Nat → Bool} {am : Nat → Nat} {n L : Nat} (h : ¬ aK I am n ≤ L) : qK I am L (aK I am n) n ≤ L ∧ L - qK I am L (aK I am n) n ≤ cK I n := by
  have hA : 0 < aK I am n := by omega
  obtain ⟨h1, h2⟩ := qK_b (I := I) (am := am) (L := L) hA n
  have h3 : qK I am L (aK I am n) n ≤ L := Nat.le_of_mul_le_mul_right h1 hA
  refine ⟨h3, ?_⟩
  have h4 : (L - qK I am L (aK I am n) n) * aK I am n ≤ cK I n * (aK I am n - 1) := by rw [Nat.sub_mul]; omega
  have h5 : cK I n * (aK I am n - 1) ≤ cK I n * aK I am n := Nat.mul_le_mul_left _ (by omega)
  exact Nat.le_of_mul_le_mul_right (Nat.le_trans h4 h5) hA
theorem newS_le {I : Nat → Bool} {am : Nat → Nat} {n L c M : Nat} (hc : c < n) (hI : I c = true) (hm : am c ≤ M) (hL : L ≤ M) : newS I am n L c ≤ M := by
  unfold newS
  split
  · exact hm
  next h =>
    have h1 := rest_ok h
    have h2 := qK_in (L := L) (A := aK I am n) (am := am) hc hI
    split <;> omega
theorem newL_le {I : Nat → Bool} {am : Nat → Nat} {n L : Nat} : newL I am n L ≤ L := by
  unfold newL
  split <;> omega
noncomputable def prB (D : DK) (r : RU) (td t c : Nat) : Bool := decide (cN D.2.2.1 c 2 = t ∧ faiF D r c td = 0)
noncomputable def inB (D : DK) (r : RU) (td t ro c : Nat) : Bool := prB D r td t c && decide (cN D.2.2.1 c 3 = ro)
abbrev amt (D : DK) (c : Nat) : Nat := cN D.2.2.1 c 4
noncomputable def duS (D : DK) (r : RU) (td t : Nat) : Nat → (Nat → Nat) × Nat
  | 0 => (fun _ => 0, worF D.2.1 t)
  | k + 1 => (fun c => if inB D r td t (ruO r k) c then newS (inB D r td t (ruO r k)) (amt D) D.2.2.1.1 (duS D r td t k).2 c else (duS D r td t k).1 c, newL (inB D r td t (ruO r k)) (amt D) D.2.2.1.1 (duS D r td t k).2)
noncomputable def dueF (D : DK) (r : RU) (td c : Nat) : Nat := (duS D r td (cN D.2.2.1 c 2) 4).1 c
theorem duS_le {D : DK} (ho : DKok D) {r : RU} {td t : Nat} (ht : t < D.2.1.1) : ∀ k, (duS D r td t k).2 ≤ 999999 ∧ ∀ c, c < D.2.2.1.1 → (duS D r td t k).1 c ≤ 999999
  | 0 => ⟨worF_le ho.2.1 ht, fun _ _ => Nat.zero_le _⟩
  | k + 1 => by
    have ih := duS_le ho (r := r) (td := td) ht k
    refine ⟨Nat.le_trans newL_le ih.1, fun c hc => ?_⟩
    show (if _ then _ else _) ≤ _
    split
    next h => exact newS_le hc h (ho.2.2.1.2 c hc).2.2.2.2.2.1 ih.1
    next => exact ih.2 c hc
theorem dueF_le {D : DK} (ho : DKok D) {r : RU} {td c : Nat} (hc : c < D.2.2.1.1) : dueF D r td c ≤ 999999 := (duS_le ho (ho.2.2.1.2 c hc).2.2.2.1 4).2 c hc
/-- bits by claim -/
noncomputable def pvK (I : Nat → Bool) : Nat → Nat
  | 0 => 0
  | k + 1 => if I k then pvK I k ||| 2 ^ k else pvK I k
theorem pvK_lt {I : Nat → Bool} : ∀ k, pvK I k < 2 ^ k
  | 0 => by show (0 : Nat) < 1; decide
  | k + 1 => by
    have ih := pvK_lt (I := I) k
    have h2 : 2 ^ k < 2 ^ (k + 1) := Nat.pow_lt_pow_right (by decide) (by omega)
    unfold pvK
    split
    · exact Nat.or_lt_two_pow (by omega) h2
    · omega
theorem pvK_t {I : Nat → Bool} : ∀ k i, (pvK I k).testBit i = (decide (i < k) && I i)
  | 0, i => by show (0 : Nat).testBit i = _; simp
  | k + 1, i => by
    have ih := pvK_t (I := I) k i
    unfold pvK
    by_cases hI : I k = true
    · rw [if_pos hI, Nat.testBit_or, ih, Nat.testBit_two_pow]
      by_cases e : k = i
      · subst e; simp [hI]
      · have : (i < k + 1) = (i < k) := propext (by omega)
        simp [e, this]
    · rw [if_neg hI, ih]
      by_cases e : i = k
      · subst e; simp [hI]
      · have : (i < k + 1) = (i < k) := propext (by omega)
        simp [this]
theorem sh63 : ∀ k, k < 64 → (((nI k).toInt64 &&& 63).toBitVec.smod 64).toNat = k := by decide +kernel
theorem lN_pow {k : Nat} (hk : k < 63) : (1 : Int64) <<< ((nI k).toInt64 &&& 63) = lN (2 ^ k) := by
  have := lN_sh (m := 1) (k := k) ((nI k).toInt64 &&& 63) (sh63 k (by omega))
  rw [Nat.one_mul] at this
  exact this
theorem lN_bit {m k : Nat} (hm : m < 2 ^ 63) (hk : k < 64) : (lN m >>> ((nI k).toInt64 &&& 63)) &&& 1 = lN (bitN m k) := by
  have e1 : lN m >>> ((nI k).toInt64 &&& 63) = lN (m / 2 ^ k) := by
    apply Int64.toInt_inj.mp
    show ((lN m).toBitVec.sshiftRight (((nI k).toInt64 &&& 63).toBitVec.smod 64).toNat).toInt = _
    rw [sh63 k hk, BitVec.toInt_sshiftRight, pk_lT (Nat.lt_of_le_of_lt (Nat.div_le_self _ _) hm)]
    show (lN m).toInt >>> k = _
    rw [pk_lT hm, Int.shiftRight_eq_div_pow]
    rfl
  rw [e1, show (1 : Int64) = lN 1 from rfl, lN_and]
  congr 1
  exact Nat.and_one_is_mod _
theorem lN_z {m : Nat} (hm : m < 2 ^ 63) : lg_cmp (lN m) 0 = 0 ↔ m = 0 := by
  have h1 := lg_cmp_le (lN m) 0
  have h2 := lg_cmp_ge (lN m) 0
  rw [show (0 : Int64) = lN 0 from rfl, pk_lLE (by omega) (by omega)] at h1 h2
  constructor
  · intro e
    rw [show (0 : Int64) = lN 0 from rfl] at e
    rw [e] at h1
    have := h1.mp (by decide)
    omega
  · intro e
    rw [show (0 : Int64) = lN 0 from rfl]
    exact Int32.le_antisymm (h1.mpr (by omega)) (h2.mpr (by omega))
def FdC (a j : Nat) : Prop := a = 38 ∨ (154 ≤ a ∧ j = 17)
theorem PSc.fd {s : PS} {h h' : kx_Mem} (hp : PSc s h) (hf : kx_Fc FdC h h') : PSc s h' := by
  have e : ∀ a, a < 154 → a ≠ 38 → h'.1 a = h.1 a := fun a h1 h2 => by funext j; exact hf.2 a j (by unfold FdC; omega)
  unfold PSc
  rw [e 14 (by decide) (by decide), e 17 (by decide) (by decide), e 18 (by decide) (by decide), e 19 (by decide) (by decide), e 20 (by decide) (by decide), e 21 (by decide) (by decide)]
  exact hp
theorem TSc.fd {s : TS} {h h' : kx_Mem} (hp : TSc s h) (hf : kx_Fc FdC h h') : TSc s h' := by
  have e : ∀ a, a < 154 → a ≠ 38 → h'.1 a = h.1 a := fun a h1 h2 => by funext j; exact hf.2 a j (by unfold FdC; omega)
  unfold TSc
  rw [e 34 (by decide) (by decide), e 35 (by decide) (by decide), e 36 (by decide) (by decide), e 37 (by decide) (by decide)]
  exact hp
theorem LSc.fd {o n ea cap : Nat} {ad : Nat → Nat} {h h' : kx_Mem} (ho : o = 40 ∨ o = 41) (hp : LSc o n ea cap ad h) (hf : kx_Fc FdC h h') : LSc o n ea cap ad h' := by
  unfold LSc
  rw [hf.2 o 2 (by unfold FdC; omega), hf.1]
  exact hp
theorem CSc.fd {s : CSt} {ca : Nat → Nat} {h h' : kx_Mem} (hp : CSc s ca h) (hf : kx_Fc FdC h h') : CSc s ca h' := by
  refine ⟨hp.1, fun c hc => ?_⟩
  obtain ⟨h1, h2, h3, h4, h5⟩ := hp.2 c hc
  rw [hf.1]
  exact ⟨h1, h2, h3, fun j hj hj6 => by rw [hf.2 (ca c) j (by unfold FdC; omega)]; exact h4 j hj hj6, h5⟩
theorem FSc.fd {s : FSt} {ca pa : Nat → Nat} {h h' : kx_Mem} (hp : FSc s ca pa h) (hf : kx_Fc FdC h h') : FSc s ca pa h' := by
  intro k hk
  have h0 := hp k hk
  rw [hf.1, hf.2 (pa k) 2 (by unfold FdC; omega), hf.2 (pa k) 3 (by unfold FdC; omega), hf.2 (pa k) 4 (by unfold FdC; omega)]
  exact h0
theorem DKc.fd {D : DK} {A : DA} {h h' : kx_Mem} (hp : DKc D A h) (hf : kx_Fc FdC h h') : DKc D A h' := ⟨hp.1.fd hf, hp.2.1.fd hf, hp.2.2.1.fd (Or.inl rfl) hf, hp.2.2.2.1.fd (Or.inr rfl) hf, hp.2.2.2.2.1.fd hf, hp.2.2.2.2.2.fd hf⟩
theorem RUc.fd {r : RU} {a : Nat} {h h' : kx_Mem} (ha : isRuA a) (hp : RUc r a h) (hf : kx_Fc FdC h h') : RUc r a h' := by
  have e : ∀ i, i ≤ 8 → h'.1 (a + i) = h.1 (a + i) := fun i hi => by
    funext j
    refine hf.2 _ j ?_
    unfold FdC
    unfold isRuA at ha
    omega
  have e0 : h'.1 a = h.1 a := e 0 (by decide)
  unfold RUc
  rw [e0, e 1 (by decide), e 2 (by decide), e 4 (by decide), e 6 (by decide), e 8 (by decide), hf.1]
  exact hp
theorem IsRu.fc {a : Nat} {P : Nat → Nat → Prop} {h h' : kx_Mem} (hp : IsRu h a) (hf : kx_Fc P h h') : IsRu h' a := by
  unfold IsRu
  rw [hf.1]
  exact hp
/-- the shares of the claims on a thing -/
def SHc (D : DK) (A : DA) (t : Nat) (f : Nat → Nat) (h : kx_Mem) : Prop := ∀ i, i < D.2.2.1.1 → cN D.2.2.1 i 2 = t → h.1 (A.1 i) 17 = nI (f i)
theorem SHc.set {D : DK} {A : DA} {t : Nat} {f f' : Nat → Nat} {h : kx_Mem} {k : Nat} (hp : CSc D.2.2.1 A.1 h) (hs : SHc D A t f h) (hk : k < D.2.2.1.1) (hf : ∀ i, i < D.2.2.1.1 → cN D.2.2.1 i 2 = t → i ≠ k → f' i = f i) : SHc D A t f' (kx_setI h (A.1 k) 17 (nI (f' k))) := by
  intro i hi ht
  by_cases e : i = k
  · subst e; simp [kx_setI, kx_up]
  · have : ¬ A.1 i = A.1 k := fun q => e (hp.1 i k hi hk q)
    rw [hf i hi ht e, ← hs i hi ht]
    simp [kx_setI, kx_up, this]
