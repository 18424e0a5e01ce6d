/-! bits: how many a small number has, on both sides -/
def bcF : Nat → Nat → Nat
  | 0, _ => 0
  | f + 1, m => m % 2 + bcF f (m / 2)
def bc (m : Nat) : Nat := bcF 64 m
theorem bcF_0 : ∀ f, bcF f 0 = 0
  | 0 => rfl
  | f + 1 => by simp [bcF, bcF_0 f]
theorem bcF_le : ∀ f m, bcF f m ≤ f
  | 0, _ => Nat.le_refl _
  | f + 1, m => by
    have := bcF_le f (m / 2)
    unfold bcF
    omega
theorem bc_le (m : Nat) : bc m ≤ 64 := bcF_le 64 m
theorem and_m2 (a b : Nat) : (a &&& b) % 2 = (a % 2) * (b % 2) := by
  have h := Nat.and_mod_two_pow (a := a) (b := b) (n := 1)
  simp only [Nat.pow_one] at h
  rw [h]
  rcases Nat.mod_two_eq_zero_or_one a with e | e <;> rcases Nat.mod_two_eq_zero_or_one b with e' | e' <;> rw [e, e'] <;> rfl
theorem bcF_and : ∀ f m, 0 < m → m < 2 ^ f → bcF f (m &&& (m - 1)) + 1 = bcF f m
  | 0, m, h0, h => by simp at h; omega
  | f + 1, m, h0, h => by
    unfold bcF
    rw [and_m2, Nat.and_div_two]
    rcases Nat.mod_two_eq_zero_or_one m with e | e
    · have e1 : (m - 1) / 2 = m / 2 - 1 := by omega
      rw [e1, e]
      have := bcF_and f (m / 2) (by omega) (by rw [Nat.pow_succ] at h; omega)
      omega
    · have e1 : (m - 1) / 2 = m / 2 := by omega
      rw [e1, e, Nat.and_self]
      have : (m - 1) % 2 = 0 := by omega
      rw [this]
      omega
theorem bc_and {m : Nat} (h0 : 0 < m) (h : m < 2 ^ 64) : bc (m &&& (m - 1)) + 1 = bc m := bcF_and 64 m h0 h
theorem nI_and {a b : Nat} : nI a &&& nI b = nI (a &&& b) := by
  apply Int32.toBitVec_inj.1
  show BitVec.ofNat 32 a &&& BitVec.ofNat 32 b = BitVec.ofNat 32 (a &&& b)
  exact BitVec.ofNat_and.symm
theorem nI_or {a b : Nat} : nI a ||| nI b = nI (a ||| b) := by
  apply Int32.toBitVec_inj.1
  show BitVec.ofNat 32 a ||| BitVec.ofNat 32 b = BitVec.ofNat 32 (a ||| b)
  exact BitVec.ofNat_or.symm
theorem nI_xor {a b : Nat} : nI a ^^^ nI b = nI (a ^^^ b) := by
  apply Int32.toBitVec_inj.1
  show BitVec.ofNat 32 a ^^^ BitVec.ofNat 32 b = BitVec.ofNat 32 (a ^^^ b)
  exact BitVec.ofNat_xor.symm
def bcS (x : Int32) (k : Int32) : Int32 := (x.toUInt32 >>> (k.toUInt32 &&& Int32.toUInt32 31)).toInt32
def bcE (x : Int32) : Int32 :=
  let a := x - (bcS x 1 &&& 1431655765)
  let b := (a &&& 858993459) + (bcS a 2 &&& 858993459)
  let c := (b + bcS b 4) &&& 252645135
  let d := c + bcS c 8
  let e := d + bcS d 16
  e &&& 63
theorem bcI : ∀ m, m < 1024 → bcE (nI m) = nI (bc m) := by decide +kernel
theorem x_In_bitCount {l : Launch} {g : kx_G} {d : Nat} {h : kx_Mem} (m : Nat) (hm : m < 1024) : kx_Sp l g m_In_bitCount [.int (nI m)] h (d) 0 0 (fun v h' => v = some (.int (nI (bc m))) ∧ h' = h) := by
  refine kx_enter_e (lv := [_]) (by decide +kernel) (Nat.le_of_ble_eq_true rfl) rfl ?_
  refine kx_iload_n (pc := 0) (kx_dd d_In_bitCount 0 rfl) rfl rfl ?_
  refine kx_iload_n (pc := 1) (kx_dd d_In_bitCount 1 rfl) rfl rfl ?_
  refine kx_iconst (pc := 2) (v := 1) (kx_dd d_In_bitCount 2 rfl) rfl ?_
  refine kx_iushr (pc := 3) (kx_dd d_In_bitCount 3 rfl) ?_
  refine kx_ldcw (pc := 4) ki_In_265 (kx_dd d_In_bitCount 4 rfl) ?_
  refine kx_iand (pc := 7) (kx_dd d_In_bitCount 5 rfl) ?_
  refine kx_isub (pc := 8) (kx_dd d_In_bitCount 6 rfl) ?_
  refine kx_istore_ne (pc := 9) (lv' := [_]) (kx_dd d_In_bitCount 7 rfl) rfl (Nat.le_of_ble_eq_true rfl) rfl ?_
  refine kx_iload_n (pc := 10) (kx_dd d_In_bitCount 8 rfl) rfl rfl ?_
  refine kx_ldcw (pc := 11) ki_In_266 (kx_dd d_In_bitCount 9 rfl) ?_
  refine kx_iand (pc := 14) (kx_dd d_In_bitCount 10 rfl) ?_
  refine kx_iload_n (pc := 15) (kx_dd d_In_bitCount 11 rfl) rfl rfl ?_
  refine kx_iconst (pc := 16) (v := 2) (kx_dd d_In_bitCount 12 rfl) rfl ?_
  refine kx_iushr (pc := 17) (kx_dd d_In_bitCount 13 rfl) ?_
  refine kx_ldcw (pc := 18) ki_In_266 (kx_dd d_In_bitCount 14 rfl) ?_
  refine kx_iand (pc := 21) (kx_dd d_In_bitCount 15 rfl) ?_
  refine kx_iadd (pc := 22) (kx_dd d_In_bitCount 16 rfl) ?_
  refine kx_istore_ne (pc := 23) (lv' := [_]) (kx_dd d_In_bitCount 17 rfl) rfl (Nat.le_of_ble_eq_true rfl) rfl ?_
  refine kx_iload_n (pc := 24) (kx_dd d_In_bitCount 18 rfl) rfl rfl ?_
  refine kx_iload_n (pc := 25) (kx_dd d_In_bitCount 19 rfl) rfl rfl ?_
  refine kx_iconst (pc := 26) (v := 4) (kx_dd d_In_bitCount 20 rfl) rfl ?_
  refine kx_iushr (pc := 27) (kx_dd d_In_bitCount 21 rfl) ?_
  refine kx_iadd (pc := 28) (kx_dd d_In_bitCount 22 rfl) ?_
  refine kx_ldcw (pc := 29) ki_In_267 (kx_dd d_In_bitCount 23 rfl) ?_
  refine kx_iand (pc := 32) (kx_dd d_In_bitCount 24 rfl) ?_
  refine kx_istore_ne (pc := 33) (lv' := [_]) (kx_dd d_In_bitCount 25 rfl) rfl (Nat.le_of_ble_eq_true rfl) rfl ?_
  refine kx_iload_n (pc := 34) (kx_dd d_In_bitCount 26 rfl) rfl rfl ?_
  refine kx_iload_n (pc := 35) (kx_dd d_In_bitCount 27 rfl) rfl rfl ?_
  refine kx_bipush (pc := 36) (v := 8) (kx_dd d_In_bitCount 28 rfl) rfl ?_
  refine kx_iushr (pc := 38) (kx_dd d_In_bitCount 29 rfl) ?_
  refine kx_iadd (pc := 39) (kx_dd d_In_bitCount 30 rfl) ?_
  refine kx_istore_ne (pc := 40) (lv' := [_]) (kx_dd d_In_bitCount 31 rfl) rfl (Nat.le_of_ble_eq_true rfl) rfl ?_
  refine kx_iload_n (pc := 41) (kx_dd d_In_bitCount 32 rfl) rfl rfl ?_
  refine kx_iload_n (pc := 42) (kx_dd d_In_bitCount 33 rfl) rfl rfl ?_
  refine kx_bipush (pc := 43) (v := 16) (kx_dd d_In_bitCount 34 rfl) rfl ?_
  refine kx_iushr (pc := 45) (kx_dd d_In_bitCount 35 rfl) ?_
  refine kx_iadd (pc := 46) (kx_dd d_In_bitCount 36 rfl) ?_
  refine kx_istore_ne (pc := 47) (lv' := [_]) (kx_dd d_In_bitCount 37 rfl) rfl (Nat.le_of_ble_eq_true rfl) rfl ?_
  refine kx_iload_n (pc := 48) (kx_dd d_In_bitCount 38 rfl) rfl rfl ?_
  refine kx_bipush (pc := 49) (v := 63) (kx_dd d_In_bitCount 39 rfl) rfl ?_
  refine kx_iand (pc := 51) (kx_dd d_In_bitCount 40 rfl) ?_
  refine kx_iret (pc := 52) rfl (kx_dd d_In_bitCount 41 rfl) (Nat.le_refl _) (Nat.le_refl _) ?_
  exact ⟨by rw [← bcI m hm]; rfl, rfl⟩
theorem y_bits_loop {l : Launch} {g : kx_G} {d : Nat} {h : kx_Mem} (m0 : Nat) (hm0 : m0 < 2 ^ 31) : ∀ n m, m < n → m < 2 ^ 31 → bc m ≤ bc m0 → kx_X (l, g, m_Mo_bits, d, 0, 0, (fun v h' => v = some (.int (nI (bc m0))) ∧ h' = h)) 0 0 4 [some (.int (nI m0)), some (.int (nI (bc m0 - bc m))), some (.int (nI m))] [] h := by
  intro n
  induction n with
  | zero => intro m hm; omega
  | succ n ih =>
    intro m hm hm2 hb
    refine kx_iload_n (pc := 4) (kx_dd d_Mo_bits 4 rfl) rfl rfl ?_
    refine kx_if_eq (pc := 5) (tgt := 20) (kx_dd d_Mo_bits 5 rfl) rfl (fun c5 => ?_) (fun c5 => ?_)
    · refine kx_iload_n (pc := 20) (kx_dd d_Mo_bits 14 rfl) rfl rfl ?_
      refine kx_iret (pc := 21) rfl (kx_dd d_Mo_bits 15 rfl) (Nat.le_refl _) (Nat.le_refl _) ?_
      have e : m = 0 := (nI_eq (b := 0) hm2 (by decide)).mp c5
      subst e
      exact ⟨rfl, rfl⟩
    · refine kx_iinc_e (pc := 8) (v := nI (bc m0 - bc m + 1)) (lv' := [_, _, _]) (kx_dd d_Mo_bits 6 rfl) rfl (Nat.le_of_ble_eq_true rfl) (nI_1 _) rfl ?_
      refine kx_iload_n (pc := 11) (kx_dd d_Mo_bits 7 rfl) rfl rfl ?_
      refine kx_iload_n (pc := 12) (kx_dd d_Mo_bits 8 rfl) rfl rfl ?_
      refine kx_iconst (pc := 13) (v := 1) (kx_dd d_Mo_bits 9 rfl) rfl ?_
      refine kx_isub (pc := 14) (kx_dd d_Mo_bits 10 rfl) ?_
      refine kx_iand (pc := 15) (kx_dd d_Mo_bits 11 rfl) ?_
      refine kx_istore_ne (pc := 16) (lv' := [_, _, _]) (kx_dd d_Mo_bits 12 rfl) rfl (Nat.le_of_ble_eq_true rfl) rfl ?_
      refine kx_goto (pc := 17) (tgt := 4) (kx_dd d_Mo_bits 13 rfl) rfl ?_
      have hm1 : 0 < m := by
        rcases Nat.eq_zero_or_pos m with e | e
        · subst e; exact absurd rfl c5
        · exact e
      have e1 : nI m &&& nI m - 1 = nI (m &&& (m - 1)) := by rw [nI_m1' hm1, nI_and]
      rw [e1]
      have e2 := bc_and hm1 (by omega)
      have e3 : m &&& (m - 1) ≤ m - 1 := Nat.and_le_right
      have ih1 := ih (m &&& (m - 1)) (by omega) (by omega) (by omega)
      rw [show bc m0 - bc (m &&& (m - 1)) = bc m0 - bc m + 1 by omega] at ih1
      exact ih1
theorem y_bits {l : Launch} {g : kx_G} {d : Nat} {h : kx_Mem} (m : Nat) (hm : m < 2 ^ 31) : kx_Sp l g m_Mo_bits [.int (nI m)] h (d) 0 0 (fun v h' => v = some (.int (nI (bc m))) ∧ h' = h) := by
  refine kx_enter_e (lv := [_, _, _]) (by decide +kernel) (Nat.le_of_ble_eq_true rfl) rfl ?_
  refine kx_iconst (pc := 0) (v := 0) (kx_dd d_Mo_bits 0 rfl) rfl ?_
  refine kx_istore_ne (pc := 1) (lv' := [_, _, _]) (kx_dd d_Mo_bits 1 rfl) rfl (Nat.le_of_ble_eq_true rfl) rfl ?_
  refine kx_iload_n (pc := 2) (kx_dd d_Mo_bits 2 rfl) rfl rfl ?_
  refine kx_istore_ne (pc := 3) (lv' := [_, _, _]) (kx_dd d_Mo_bits 3 rfl) rfl (Nat.le_of_ble_eq_true rfl) rfl ?_
  have k := y_bits_loop (l := l) (g := g) (d := d) (h := h) m hm (m + 1) m (Nat.lt_succ_self m) hm (Nat.le_refl _)
  rw [Nat.sub_self] at k
  exact k
