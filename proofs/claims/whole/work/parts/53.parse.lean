/-! a text of rules: what it says -/
abbrev Fa : Type := Nat × Nat
def numF (b : Nat → Int32) (n i lo hi : Nat) : Fa ⊕ (Nat × Nat) := if tK b n i = 2 then (if lo ≤ tV b n i ∧ tV b n i ≤ hi then .inr (tV b n i, tE b n i) else .inl (2, tP b n i)) else .inl (1, tP b n i)
def chO (b : Nat → Int32) (n i : Nat) (nm : List Nat) : Option Nat := if tK b n i = 1 then ixO nm (tW b n i) 0 else none
def setF2 (b : Nat → Int32) (n i : Nat) (r : RU) (s lo hi : Nat) : Fa ⊕ (RU × Nat) := match numF b n i lo hi with
  | .inl f => .inl f
  | .inr q => .inr (ruSet r s (nI q.1), q.2)
def dayF (b : Nat → Int32) (n i : Nat) (r : RU) : Fa ⊕ (RU × Nat) := match numF b n i 0 1999 with
  | .inl f => .inl f
  | .inr q => setF2 b n q.2 (ruSet r 1 (nI q.1)) 2 q.1 1999
def chcF (b : Nat → Int32) (n i : Nat) (r : RU) (s : Nat) (nm : List Nat) : Fa ⊕ (RU × Nat) := match chO b n i nm with
  | none => .inl (1, tP b n i)
  | some q => .inr (ruSet r s (nI q), tE b n i)
def rteF (b : Nat → Int32) (n i : Nat) (r : RU) : Fa ⊕ (RU × Nat) := match numF b n i 0 99 with
  | .inl f => .inl f
  | .inr q => chcF b n q.2 (ruSet r 4 (nI q.1)) 5 nm2
def kdF (b : Nat → Int32) (n i : Nat) (r : RU) : Fa ⊕ (Nat × RU × Nat) := if tK b n i = 1 then (match kiF r (tW b n i) with
  | some k => .inr (k, r, tE b n i)
  | none => if ruK r = 16 then .inl (4, tP b n i) else .inr (ruK r, ruKin r (tW b n i), tE b n i)) else .inl (1, tP b n i)
def weiP (r : RU) (w : Nat) : Prop := ∃ k, kiF r w = some k ∧ 0 < ruWT r k
noncomputable def wgF (b : Nat → Int32) (n i : Nat) (r : RU) : Fa ⊕ (RU × Nat) := @ite _ (tK b n i = 1 ∧ weiP r (tW b n i)) (Classical.propDecidable _) (.inl (3, tP b n i)) (match kdF b n i r with
  | .inl f => .inl f
  | .inr q => match numF b n q.2.2 1 99 with
    | .inl f => .inl f
    | .inr z => .inr (ruWei q.2.1 q.1 z.1, z.2))
def neeF (b : Nat → Int32) (n i : Nat) (r : RU) : Fa ⊕ (RU × Nat) := if tK b n i = 1 then (if neF r (tW b n i) = none then (match numF b n (tE b n i) 0 999 with
  | .inl f => .inl f
  | .inr q => .inr (ruNee r (tW b n i) q.1, q.2)) else .inl (3, tP b n i)) else .inl (1, tP b n i)
def musF (b : Nat → Int32) (n i : Nat) (r : RU) : Fa ⊕ (RU × Nat) := if tK b n i = 1 then (match kdF b n (tE b n i) r with
  | .inl f => .inl f
  | .inr q => .inr (ruDem q.2.1 (false, tW b n i, q.1, q.1), q.2.2)) else .inl (1, tP b n i)
def eitF (b : Nat → Int32) (n i : Nat) (r : RU) : Fa ⊕ (RU × Nat) := if tK b n i = 1 then (match kdF b n (tE b n i) r with
  | .inl f => .inl f
  | .inr q => match kdF b n q.2.2 q.2.1 with
    | .inl f => .inl f
    | .inr z => .inr (ruDem z.2.1 (true, tW b n i, q.1, z.1), z.2.2)) else .inl (1, tP b n i)
/-- roles, as they come, to the clause's end -/
def ordK (b : Nat → Int32) (n : Nat) : Nat → Nat → List Nat → Fa ⊕ (List Nat × Nat)
  | 0, i, _ => .inl (0, i)
  | f + 1, i, L => if L ≠ [] ∧ tK b n i = 3 then .inr (L, tE b n i) else match chO b n i nm4 with
    | none => .inl (1, tP b n i)
    | some q => if q ∈ L then .inl (3, tP b n i) else ordK b n f (tE b n i) (L ++ [q])
def ordF2 (b : Nat → Int32) (n i : Nat) (r : RU) : Fa ⊕ (RU × Nat) := match ordK b n 5 i [] with
  | .inl f => .inl f
  | .inr q => .inr (ruOrd r (finO q.1), q.2)
noncomputable def bodF (c : Nat) (b : Nat → Int32) (n i : Nat) (r : RU) : Fa ⊕ (RU × Nat) :=
  if c = 0 then setF2 b n i r 0 0 1999 else if c = 1 then dayF b n i r else if c = 2 then chcF b n i r 3 nm1 else if c = 3 then rteF b n i r else if c = 4 then chcF b n i r 6 nm3 else if c = 5 then setF2 b n i r 7 1 9999 else if c = 6 then setF2 b n i r 8 0 10 else if c = 7 then setF2 b n i r 9 0 1999 else if c = 8 then setF2 b n i r 10 1 100 else if c = 9 then ordF2 b n i r else if c = 10 then wgF b n i r else if c = 11 then neeF b n i r else if c = 12 then musF b n i r else eitF b n i r
def fulP (r : RU) (c : Nat) : Prop := (c = 11 ∧ 10 ≤ ruN r) ∨ (c = 12 ∧ 10 ≤ (ruM r).length) ∨ (c = 13 ∧ 10 ≤ (ruE r).length)
noncomputable def clF (b : Nat → Int32) (n i : Nat) (r : RU) (td : Nat) : Fa ⊕ (RU × Nat × Nat) := match chO b n i nm0 with
  | none => .inl (1, tP b n i)
  | some c => @ite _ (c ≤ 9 ∧ bitN td c = 1) (Classical.propDecidable _) (.inl (3, tP b n i)) (@ite _ (fulP r c) (Classical.propDecidable _) (.inl (4, tP b n i)) (match bodF c b n (tE b n i) r with
    | .inl f => .inl f
    | .inr q => if c = 9 then .inr (q.1, td ||| 2 ^ c, q.2) else if tK b n q.2 = 3 then .inr (q.1, td ||| 2 ^ c, tE b n q.2) else .inl (1, tP b n q.2)))
noncomputable def rdF (b : Nat → Int32) (n : Nat) : Nat → Nat → RU → Nat → Nat → Fa ⊕ (RU × Nat)
  | 0, _, r, _, cnt => .inr (r, cnt)
  | f + 1, i, r, td, cnt => if tK b n i = 0 then .inr (r, cnt) else match clF b n i r td with
    | .inl z => .inl z
    | .inr q => rdF b n f q.2.2 q.1 q.2.1 (cnt + 1)
/-! places and sizes -/
theorem tE_n {b : Nat → Int32} {n i : Nat} (h : i ≤ n) : tE b n i ≤ n ∧ i ≤ tE b n i := by
  have h1 := tP_le (b := b) h
  have h2 := tE_le (b := b) h
  omega
theorem tK_0 {b : Nat → Int32} {n i : Nat} (h : i ≤ n) (hk : tK b n i ≠ 0) : i < tE b n i := by
  have h1 := tP_le (b := b) h
  have h2 := tE_le (b := b) h
  have : tP b n i < n := by
    rcases Nat.lt_or_ge (tP b n i) n with z | z
    · exact z
    · exact absurd (show tK b n i = 0 by unfold tK; exact if_pos z) hk
  have := h2.2.2 this
  omega
theorem tV_lt {b : Nat → Int32} {n i : Nat} (h : i ≤ n) (hk : tK b n i = 2) : tV b n i < 10000 := by
  have h1 := tP_le (b := b) h
  unfold tK at hk
  by_cases c1 : n ≤ tP b n i
  · rw [if_pos c1] at hk; omega
  rw [if_neg c1] at hk
  by_cases c2 : isLe (b (tP b n i)) = true
  · rw [if_pos c2] at hk
    revert hk
    split <;> omega
  rw [if_neg c2] at hk
  by_cases c3 : isDi (b (tP b n i)) = true
  · rw [if_pos c3] at hk
    have e : tE b n i = run isDi b n (tP b n i) := by
      unfold tE
      rw [if_neg c1, if_neg c2, if_pos c3]
    by_cases c4 : 4 < tE b n i - tP b n i
    · rw [if_pos c4] at hk; omega
    · unfold tV
      have := nv_lt (b := b) (p := tP b n i) (tE b n i - tP b n i) (fun j hj => run_all (P := isDi) (b := b) h1.2 _ (by omega) (by rw [← e]; omega))
      exact Nat.lt_of_lt_of_le this (Nat.pow_le_pow_right (by decide) (show tE b n i - tP b n i ≤ 4 by omega))
  · rw [if_neg c3] at hk
    revert hk
    split <;> omega
theorem tW_lt {b : Nat → Int32} {n i : Nat} (h : i ≤ n) (hk : tK b n i = 1) : 0 < tW b n i ∧ tW b n i < 2 ^ 60 := by
  obtain ⟨t1, t2, t3, t4, t5⟩ := tK1 h hk
  have hlt := wc_lt (b := b) (p := tP b n i) (tE b n i - tP b n i) t4
  have hp : (32 : Nat) ^ (tE b n i - tP b n i) ≤ 32 ^ 12 := Nat.pow_le_pow_right (by decide) t3
  refine ⟨?_, Nat.lt_of_lt_of_le hlt hp⟩
  unfold tW
  obtain ⟨k, hk2⟩ : ∃ k, tE b n i - tP b n i = k + 1 := ⟨tE b n i - tP b n i - 1, by omega⟩
  rw [hk2]
  obtain ⟨x, x1, x2, x3⟩ := le_nat (t4 k (by omega))
  simp only [wc]
  rw [x3, nI_clamp (by omega)]
  omega
theorem chO_lt {b : Nat → Int32} {n i q : Nat} {nm : List Nat} (h : chO b n i nm = some q) : tK b n i = 1 ∧ q < nm.length := by
  unfold chO at h
  split at h
  next hk => exact ⟨hk, by have := ixO_lt _ _ _ h; omega⟩
  next => cases h
