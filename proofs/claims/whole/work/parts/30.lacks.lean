/-! the class: Rules, what lacks -/
theorem bitN_t (m k : Nat) : bitN m k = (m.testBit k).toNat := by
  unfold bitN
  rw [Nat.testBit_eq_decide_div_mod_eq]
  rcases Nat.mod_two_eq_zero_or_one (m / 2 ^ k) with e | e <;> simp [e]
def sumB (m : Nat) : Nat → Nat
  | 0 => 0
  | k + 1 => sumB m k + bitN m k
theorem bcF_sum : ∀ f m, bcF f m = sumB m f
  | 0, _ => rfl
  | f + 1, m => by
    have ih := bcF_sum f (m / 2)
    have h2 : ∀ k, sumB m (k + 1) = m % 2 + sumB (m / 2) k := by
      intro k
      induction k with
      | zero => simp [sumB, bitN]
      | succ k ih2 =>
        rw [sumB, ih2]
        show _ = m % 2 + (sumB (m / 2) k + bitN (m / 2) k)
        have : bitN m (k + 1) = bitN (m / 2) k := by unfold bitN; rw [Nat.pow_succ, Nat.mul_comm, Nat.div_div_eq_div_mul]
        omega
    rw [h2 f, ← ih]
    rfl
theorem bit_x {s x j : Nat} (hx : s.testBit x = true) : (s ^^^ 2 ^ x).testBit j = (if j = x then false else s.testBit j) := by
  rw [Nat.testBit_xor, Nat.testBit_two_pow]
  by_cases e : x = j
  · subst e; simp [hx]
  · have e2 : ¬ j = x := fun q => e q.symm
    simp [e, e2]
theorem sumB_x {s x : Nat} (hx : s.testBit x = true) : ∀ f, sumB s f = sumB (s ^^^ 2 ^ x) f + (if x < f then 1 else 0)
  | 0 => rfl
  | f + 1 => by
    have ih := sumB_x hx f
    unfold sumB
    rw [ih, bitN_t s f, bitN_t _ f, bit_x hx]
    by_cases e : f = x
    · subst e; simp [hx]
    · rw [if_neg e]
      by_cases e2 : x < f
      · rw [if_pos e2, if_pos (by omega)]; omega
      · rw [if_neg e2, if_neg (by omega)]; omega
theorem bc_x {s x : Nat} (hx : s.testBit x = true) (h : s < 2 ^ 32) : bc s = bc (s ^^^ 2 ^ x) + 1 := by
  unfold bc
  rw [bcF_sum, bcF_sum, sumB_x hx]
  have : x < 64 := by
    rcases Nat.lt_or_ge x 64 with q | q
    · exact q
    · rw [Nat.testBit_lt_two_pow (Nat.lt_of_lt_of_le h (Nat.pow_le_pow_right (by decide) (by omega)))] at hx
      cases hx
  rw [if_pos this]
theorem bc_0 {s : Nat} (hs : s < 2 ^ 32) (h : bc s = 0) : s = 0 := by
  rcases Nat.eq_zero_or_pos s with e | e
  · exact e
  · have := bc_and e (by omega)
    omega
theorem tb_lt {s B i : Nat} (hs : s < 2 ^ B) (h : s.testBit i = true) : i < B := by
  rcases Nat.lt_or_ge i B with q | q
  · exact q
  · rw [Nat.testBit_lt_two_pow (Nat.lt_of_lt_of_le hs (Nat.pow_le_pow_right (by decide) q))] at h
    cases h
theorem dis_t {a b : Nat} (h : a &&& b = 0) (i : Nat) : ¬ (a.testBit i = true ∧ b.testBit i = true) := by
  intro q
  have := congrArg (fun z => Nat.testBit z i) h
  simp [q.1, q.2] at this
theorem dis_of {a b : Nat} (h : ∀ i, ¬ (a.testBit i = true ∧ b.testBit i = true)) : a &&& b = 0 := by
  apply Nat.eq_of_testBit_eq
  intro i
  rw [Nat.testBit_and, Nat.zero_testBit]
  have := h i
  cases h1 : a.testBit i <;> cases h2 : b.testBit i <;> simp_all
theorem pt_or {r : RU} {a b : Nat} (h : a &&& b = 0) : ∀ k, ptK r (a ||| b) k = ptK r a k + ptK r b k
  | 0 => rfl
  | k + 1 => by
    have ih := pt_or (r := r) h k
    have hd := dis_t h k
    unfold ptK
    rw [ih, bitN_t (a ||| b), bitN_t a, bitN_t b, Nat.testBit_or]
    cases h1 : a.testBit k <;> cases h2 : b.testBit k <;> simp_all <;> omega
theorem pt_x {r : RU} {s x : Nat} (hx : s.testBit x = true) : ∀ k, ptK r s k = ptK r (s ^^^ 2 ^ x) k + (if x < k then ruWT r x else 0)
  | 0 => rfl
  | k + 1 => by
    have ih := pt_x (r := r) hx k
    unfold ptK
    rw [ih, bitN_t s k, bitN_t _ k, bit_x hx]
    by_cases e : k = x
    · subst e; simp [hx]
    · rw [if_neg e]
      by_cases e2 : x < k
      · rw [if_pos e2, if_pos (by omega)]; omega
      · rw [if_neg e2, if_neg (by omega)]; omega
theorem pt_none {r : RU} {s : Nat} : ∀ k, (∀ i, i < k → s.testBit i = false) → ptK r s k = 0
  | 0, _ => rfl
  | k + 1, h => by
    unfold ptK
    rw [pt_none k (fun i hi => h i (by omega)), bitN_t, h k (by omega)]
    simp
/-- the heaviest that is not taken -/
def bstK (r : RU) (t : Nat) : Nat → Option Nat
  | 0 => none
  | k + 1 => if t.testBit k = true then bstK r t k else match bstK r t k with
    | none => some k
    | some m => if ruWT r m < ruWT r k then some k else some m
theorem bstK_ok {r : RU} {t : Nat} : ∀ k, (bstK r t k = none → ∀ i, i < k → t.testBit i = true) ∧ (∀ m, bstK r t k = some m → m < k ∧ t.testBit m = false ∧ ∀ i, i < k → t.testBit i = false → ruWT r i ≤ ruWT r m)
  | 0 => ⟨fun _ i hi => absurd hi (Nat.not_lt_zero i), fun m h => by simp [bstK] at h⟩
  | k + 1 => by
    obtain ⟨h1, h2⟩ := bstK_ok (r := r) (t := t) k
    unfold bstK
    by_cases ht : t.testBit k = true
    · rw [if_pos ht]
      refine ⟨fun e i hi => ?_, fun m e => ?_⟩
      · rcases Nat.lt_succ_iff_lt_or_eq.mp hi with q | q
        · exact h1 e i q
        · rw [q]; exact ht
      · obtain ⟨a, b, c⟩ := h2 m e
        refine ⟨by omega, b, fun i hi hb => ?_⟩
        rcases Nat.lt_succ_iff_lt_or_eq.mp hi with q | q
        · exact c i q hb
        · rw [q, ht] at hb; cases hb
    · rw [if_neg ht]
      have ht' : t.testBit k = false := by simpa using ht
      cases e0 : bstK r t k with
      | none =>
        refine ⟨fun e => by simp at e, fun m e => ?_⟩
        simp only [Option.some.injEq] at e
        subst e
        refine ⟨by omega, ht', fun i hi hb => ?_⟩
        rcases Nat.lt_succ_iff_lt_or_eq.mp hi with q | q
        · rw [h1 e0 i q] at hb; cases hb
        · rw [q]; exact Nat.le_refl _
      | some m0 =>
        obtain ⟨a, b, c⟩ := h2 m0 e0
        refine ⟨fun e => by simp only at e; split at e <;> simp at e, fun m e => ?_⟩
        simp only at e
        split at e
        next hlt =>
          simp only [Option.some.injEq] at e
          subst e
          refine ⟨by omega, ht', fun i hi hb => ?_⟩
          rcases Nat.lt_succ_iff_lt_or_eq.mp hi with q | q
          · have := c i q hb; omega
          · rw [q]; exact Nat.le_refl _
        next hlt =>
          simp only [Option.some.injEq] at e
          subst e
          refine ⟨by omega, b, fun i hi hb => ?_⟩
          rcases Nat.lt_succ_iff_lt_or_eq.mp hi with q | q
          · exact c i q hb
          · rw [q]; omega
def mnB (r : RU) (B : Nat) : Nat := if B < ruK r then B else ruK r
def heaF (r : RU) (B : Nat) : Nat → Nat → Nat
  | 0, _ => 0
  | n + 1, t => match bstK r t (mnB r B) with
    | none => 0
    | some m => ruWT r m + heaF r B n (t ||| 2 ^ m)
theorem heaF_le {r : RU} (ho : RUok r) {B : Nat} : ∀ n t, heaF r B n t ≤ 99 * n
  | 0, _ => Nat.le_refl _
  | n + 1, t => by
    unfold heaF
    split
    · omega
    next m e =>
      have h1 := heaF_le ho (B := B) n (t ||| 2 ^ m)
      have h2 := ((bstK_ok (r := r) (t := t) (mnB r B)).2 m e).1
      have h3 := (ho.2.1 m (by unfold mnB at h2; split at h2 <;> omega)).2
      omega
theorem hea_max {r : RU} {B : Nat} (hB : B ≤ 16) : ∀ n t s, s < 2 ^ B → s &&& t = 0 → bc s ≤ n → ptF r s ≤ heaF r B n t := by
  intro n
  induction n with
  | zero =>
    intro t s hs _ hb
    have h32 : s < 2 ^ 32 := Nat.lt_of_lt_of_le hs (Nat.pow_le_pow_right (by decide) (by omega))
    rw [bc_0 h32 (by omega)]
    show ptK r 0 (ruK r) ≤ _
    rw [pt_none _ (fun i _ => Nat.zero_testBit i)]
    exact Nat.zero_le _
  | succ n ihn =>
    intro t s hs hd hb
    have h32 : s < 2 ^ 32 := Nat.lt_of_lt_of_le hs (Nat.pow_le_pow_right (by decide) (by omega))
    obtain ⟨k1, k2⟩ := bstK_ok (r := r) (t := t) (mnB r B)
    unfold heaF
    cases e : bstK r t (mnB r B) with
    | none =>
      show ptK r s (ruK r) ≤ 0
      rw [pt_none _ (fun i hi => ?_)]
      · exact Nat.le_refl _
      · cases h1 : s.testBit i with
        | false => rfl
        | true => exact absurd ⟨h1, k1 e i (by have := tb_lt hs h1; unfold mnB; split <;> omega)⟩ (dis_t hd i)
    | some m =>
      simp only
      obtain ⟨m1, m2, m3⟩ := k2 m e
      have main : ∀ x, s.testBit x = true → (x = m ∨ s.testBit m = false) → ptF r s ≤ ruWT r m + heaF r B n (t ||| 2 ^ m) := by
        intro x hx hxm
        have hlt := tb_lt hs hx
        have hs' : s ^^^ 2 ^ x < 2 ^ B := Nat.xor_lt_two_pow hs (Nat.pow_lt_pow_right (by decide) hlt)
        have hbc := bc_x hx h32
        have ih := ihn (t ||| 2 ^ m) (s ^^^ 2 ^ x) hs' (dis_of (fun i q => by
          rw [bit_x hx, Nat.testBit_or, Nat.testBit_two_pow] at q
          obtain ⟨q1, q2⟩ := q
          by_cases ei : i = x
          · rw [if_pos ei] at q1; cases q1
          · rw [if_neg ei] at q1
            by_cases em : m = i
            · subst em
              rcases hxm with z | z
              · exact ei z.symm
              · rw [z] at q1; cases q1
            · simp [em] at q2
              exact dis_t hd i ⟨q1, q2⟩)) (by omega)
        have hp := pt_x (r := r) hx (ruK r)
        have hwx : (if x < ruK r then ruWT r x else 0) ≤ ruWT r m := by
          split
          · refine m3 x (by unfold mnB; split <;> omega) ?_
            cases ht : t.testBit x with
            | false => rfl
            | true => exact absurd ⟨hx, ht⟩ (dis_t hd x)
          · omega
        unfold ptF at ih ⊢
        omega
      cases hm : s.testBit m with
      | true => exact main m hm (Or.inl rfl)
      | false =>
        by_cases hz : s = 0
        · rw [hz]
          show ptK r 0 (ruK r) ≤ _
          rw [pt_none _ (fun i _ => Nat.zero_testBit i)]
          exact Nat.zero_le _
        · obtain ⟨x, hx⟩ := Nat.exists_testBit_of_ne_zero hz
          exact main x hx (Or.inr hm)
theorem met_mono {r : RU} {w a b : Nat} (h : metP r w a) (hab : ∀ i, a.testBit i = true → b.testBit i = true) : metP r w b := by
  intro x hx hw hz
  obtain ⟨i, hi⟩ := Nat.exists_testBit_of_ne_zero (h x hx hw)
  rw [Nat.testBit_and, Bool.and_eq_true] at hi
  exact dis_t hz i ⟨hi.1, hab i hi.2⟩
def okS (r : RU) (w had B S s : Nat) : Prop := s < 2 ^ B ∧ s &&& had = 0 ∧ bc s ≤ S ∧ shoP r w (had ||| s)
def leaP (r : RU) (w had B S : Nat) (o : Option Nat) : Prop := (o = none → ∀ s, ¬ okS r w had B S s) ∧ ∀ m, o = some m → okS r w had B S m ∧ ∀ s, okS r w had B S s → m ≤ s
def hopP (r : RU) (w had B S : Nat) : Prop := ptF r had + heaF r B S had < nedF r w ∨ ¬ metP r w (had ||| (2 ^ B - 1))
theorem hop_ok {r : RU} {w had B S : Nat} (hB : B ≤ 16) (h : hopP r w had B S) : ∀ s, ¬ okS r w had B S s := by
  intro s ⟨h1, h2, h3, h4, h5⟩
  rcases h with h | h
  · have hm := hea_max hB S had s h1 h2 h3 (r := r)
    have hp := pt_or (r := r) (a := had) (b := s) (by rw [Nat.and_comm]; exact h2) (ruK r)
    unfold ptF at h hm h4
    omega
  · refine h (met_mono h5 (fun i hi => ?_))
    rw [Nat.testBit_or, Bool.or_eq_true] at hi ⊢
    rcases hi with hi | hi
    · exact Or.inl hi
    · right
      rw [Nat.testBit_two_pow_sub_one]
      exact decide_eq_true (tb_lt h1 hi)
theorem hiB {s B : Nat} (h : s < 2 ^ (B + 1)) : s < 2 ^ B ∨ ∃ t, t < 2 ^ B ∧ s = t ||| 2 ^ B ∧ s = t + 2 ^ B := by
  rcases Nat.lt_or_ge s (2 ^ B) with q | q
  · exact Or.inl q
  · right
    rw [Nat.pow_succ] at h
    refine ⟨s - 2 ^ B, by omega, ?_, by omega⟩
    have := Nat.two_pow_add_eq_or_of_lt (i := B) (b := s - 2 ^ B) (by omega) 1
    rw [Nat.mul_one] at this
    rw [Nat.or_comm, ← this]
    omega
theorem or_hi {t B : Nat} (h : t < 2 ^ B) : t ||| 2 ^ B = t + 2 ^ B := by
  have := Nat.two_pow_add_eq_or_of_lt (i := B) (b := t) h 1
  rw [Nat.mul_one] at this
  rw [Nat.or_comm, ← this]
  omega
theorem bc_hi {t B : Nat} (h : t < 2 ^ B) (hB : B ≤ 16) : bc (t ||| 2 ^ B) = bc t + 1 := by
  have h1 : (t ||| 2 ^ B).testBit B = true := by simp [Nat.testBit_or, Nat.testBit_two_pow]
  have h2 : t ||| 2 ^ B < 2 ^ 32 := by
    rw [or_hi h]
    have : 2 ^ B ≤ 2 ^ 16 := Nat.pow_le_pow_right (by decide) hB
    omega
  rw [bc_x h1 h2]
  congr 2
  apply Nat.eq_of_testBit_eq
  intro i
  rw [bit_x h1, Nat.testBit_or, Nat.testBit_two_pow]
  by_cases e : i = B
  · subst e; simp [Nat.testBit_lt_two_pow h]
  · have e2 : ¬ B = i := fun q => e q.symm
    simp [e, e2]
theorem lea_step {r : RU} {w had B S : Nat} (hB : B + 1 ≤ 16) {o o2 : Option Nat} (h1 : leaP r w had B (S + 1) o) (h2 : had &&& 2 ^ B = 0 → o = none → leaP r w (had ||| 2 ^ B) B S o2) :
    (∀ m, o = some m → leaP r w had (B + 1) (S + 1) (some m)) ∧ (o = none → had &&& 2 ^ B ≠ 0 → leaP r w had (B + 1) (S + 1) none) ∧ (o = none → had &&& 2 ^ B = 0 → leaP r w had (B + 1) (S + 1) (o2.map (fun t => t ||| 2 ^ B)) ∧ ∀ t, o2 = some t → t < 2 ^ B) := by
  have hpw : 2 ^ (B + 1) = 2 * 2 ^ B := by rw [Nat.pow_succ]; omega
  have sub : ∀ t, t < 2 ^ B → ((t ||| 2 ^ B) &&& had = 0 ↔ t &&& had = 0 ∧ had &&& 2 ^ B = 0) := by
    intro t ht
    constructor
    · intro hz
      refine ⟨dis_of (fun i q => dis_t hz i ⟨by rw [Nat.testBit_or, q.1]; rfl, q.2⟩), dis_of (fun i q => dis_t hz i ⟨by rw [Nat.testBit_or, q.2]; simp, q.1⟩)⟩
    · intro hz
      refine dis_of (fun i q => ?_)
      rw [Nat.testBit_or, Bool.or_eq_true] at q
      rcases q.1 with z | z
      · exact dis_t hz.1 i ⟨z, q.2⟩
      · exact dis_t hz.2 i ⟨q.2, z⟩
  have sub2 : ∀ t, t < 2 ^ B → (t &&& (had ||| 2 ^ B) = 0 ↔ t &&& had = 0) := by
    intro t ht
    constructor
    · intro hz
      exact dis_of (fun i q => dis_t hz i ⟨q.1, by rw [Nat.testBit_or, q.2]; rfl⟩)
    · intro hz
      refine dis_of (fun i q => ?_)
      rw [Nat.testBit_or, Bool.or_eq_true, Nat.testBit_two_pow] at q
      rcases q.2 with z | z
      · exact dis_t hz i ⟨q.1, z⟩
      · have e : B = i := of_decide_eq_true z
        subst e
        rw [Nat.testBit_lt_two_pow ht] at q
        cases q.1
  have assoc : ∀ t, had ||| (t ||| 2 ^ B) = had ||| 2 ^ B ||| t := fun t => by rw [Nat.or_assoc, Nat.or_comm t]
  refine ⟨fun m e => ?_, fun e hz => ?_, fun e hz => ?_⟩
  · obtain ⟨⟨a1, a2, a3, a4⟩, a5⟩ := h1.2 m e
    refine ⟨fun q => by simp at q, fun m' q => ?_⟩
    simp only [Option.some.injEq] at q
    subst q
    refine ⟨⟨by omega, a2, a3, a4⟩, fun s ⟨s1, s2, s3, s4⟩ => ?_⟩
    rcases hiB s1 with q | ⟨t, t1, t2, t3⟩
    · exact a5 s ⟨q, s2, s3, s4⟩
    · omega
  · refine ⟨fun _ s ⟨s1, s2, s3, s4⟩ => ?_, fun m q => by simp at q⟩
    rcases hiB s1 with q | ⟨t, t1, t2, t3⟩
    · exact h1.1 e s ⟨q, s2, s3, s4⟩
    · rw [t2] at s2
      exact hz ((sub t t1).mp s2).2
  · have h3 := h2 hz e
    have ok2 : ∀ t, t < 2 ^ B → (okS r w (had ||| 2 ^ B) B S t ↔ okS r w had (B + 1) (S + 1) (t ||| 2 ^ B)) := by
      intro t ht
      unfold okS
      rw [sub2 t ht, sub t ht, bc_hi ht (by omega), assoc, or_hi ht]
      constructor
      · intro ⟨q1, q2, q3, q4⟩; exact ⟨by omega, ⟨q2, hz⟩, by omega, q4⟩
      · intro ⟨q1, q2, q3, q4⟩; exact ⟨ht, q2.1, by omega, q4⟩
    refine ⟨⟨fun q s hs => ?_, fun m q => ?_⟩, fun t q => (h3.2 t q).1.1⟩
    · have e2 : o2 = none := by cases o2 with
        | none => rfl
        | some t => simp at q
      rcases hiB hs.1 with z | ⟨t, t1, t2, t3⟩
      · exact h1.1 e s ⟨z, hs.2⟩
      · rw [t2] at hs
        exact h3.1 e2 t ((ok2 t t1).mpr hs)
    · cases e2 : o2 with
      | none => rw [e2] at q; simp at q
      | some t =>
        rw [e2] at q
        simp only [Option.map_some, Option.some.injEq] at q
        subst q
        obtain ⟨b1, b2⟩ := h3.2 t e2
        refine ⟨(ok2 t b1.1).mp b1, fun s hs => ?_⟩
        rcases hiB hs.1 with z | ⟨t', t1, t2, t3⟩
        · exact absurd (show okS r w had B (S + 1) s from ⟨z, hs.2⟩) (h1.1 e s)
        · rw [t2] at hs
          have := b2 t' ((ok2 t' t1).mpr hs)
          rw [or_hi b1.1]
          omega
theorem lea_0 {r : RU} {w had B S : Nat} (h : shoP r w had) : leaP r w had B S (some 0) := by
  refine ⟨fun q => by simp at q, fun m q => ?_⟩
  simp only [Option.some.injEq] at q
  subst q
  exact ⟨⟨Nat.two_pow_pos B, Nat.zero_and _, by unfold bc; rw [bcF_0]; omega, by rw [Nat.or_zero]; exact h⟩, fun s _ => Nat.zero_le s⟩
theorem lea_n {r : RU} {w had B S : Nat} (hB : B ≤ 16) (h : ¬ shoP r w had) (hz : S = 0 ∨ B = 0) : leaP r w had B S none := by
  refine ⟨fun _ s ⟨s1, s2, s3, s4⟩ => ?_, fun m q => by simp at q⟩
  have : s = 0 := by
    rcases hz with e | e
    · subst e
      exact bc_0 (Nat.lt_of_lt_of_le s1 (Nat.pow_le_pow_right (by decide) (by omega))) (by omega)
    · subst e; simpa using s1
  subst this
  rw [Nat.or_zero] at s4
  exact h s4
