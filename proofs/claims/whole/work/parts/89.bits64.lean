/-! bits of longs: Long.bitCount, the reference's bitsOf, Arrays.fill -/
theorem us63 : ∀ k, k < 64 → ((nI k).toInt64.toUInt64 &&& Int64.toUInt64 63) = UInt64.ofNat k := by decide +kernel
theorem lN_ush {n k : Nat} {y : Int32} (hn : n < 2 ^ 64) (hk : k < 64) (hy : (y.toInt64.toUInt64 &&& Int64.toUInt64 63) = UInt64.ofNat k) : ((lN n).toUInt64 >>> (y.toInt64.toUInt64 &&& Int64.toUInt64 63)).toInt64 = lN (n / 2 ^ k) := by
  rw [hy]
  have h1 : (UInt64.ofNat k).toNat = k := by
    show (BitVec.ofNat 64 k).toNat = k
    rw [BitVec.toNat_ofNat, Nat.mod_eq_of_lt (by omega)]
  have h2 : (lN n).toUInt64.toNat = n := by
    show (BitVec.ofNat 64 n).toNat = n
    rw [BitVec.toNat_ofNat, Nat.mod_eq_of_lt hn]
  apply Int64.toBitVec_inj.1
  apply BitVec.eq_of_toNat_eq
  show ((lN n).toUInt64 >>> UInt64.ofNat k).toNat = (BitVec.ofNat 64 (n / 2 ^ k)).toNat
  rw [UInt64.toNat_shiftRight, h1, h2, Nat.mod_eq_of_lt hk, Nat.shiftRight_eq_div_pow, BitVec.toNat_ofNat, Nat.mod_eq_of_lt (Nat.lt_of_le_of_lt (Nat.div_le_self _ _) hn)]
theorem and256 {a b m c : Nat} (ha : a < 256) (hb : b < 256) : (a + 256 * m) &&& (b + 256 * c) = (a &&& b) + 256 * (m &&& c) := by
  have hab : a &&& b < 2 ^ 8 := Nat.and_lt_two_pow a hb
  apply Nat.eq_of_testBit_eq
  intro i
  rw [Nat.testBit_and, Nat.add_comm a, Nat.add_comm b, Nat.add_comm (a &&& b), show (256 : Nat) = 2 ^ 8 from rfl, Nat.testBit_two_pow_mul_add _ ha, Nat.testBit_two_pow_mul_add _ hb, Nat.testBit_two_pow_mul_add _ hab]
  split
  · rw [Nat.testBit_and]
  · rw [Nat.testBit_and]
def mk8 (b : Nat) : Nat → Nat
  | 0 => 0
  | k + 1 => b + 256 * mk8 b k
def s1F (k n : Nat) : Nat := n - ((n / 2) &&& mk8 85 k)
def s2F (k x : Nat) : Nat := (x &&& mk8 51 k) + ((x / 4) &&& mk8 51 k)
def s3F (k y : Nat) : Nat := (y + y / 16) &&& mk8 15 k
def b1F (a : Nat) : Nat := a - ((a / 2) &&& 85)
def b2F (x : Nat) : Nat := (x &&& 51) + ((x / 4) &&& 51)
def b3F (y : Nat) : Nat := (y + y / 16) &&& 15
theorem dec1 : ∀ a, a < 256 → ∀ t, t < 2 → (a / 2 + 128 * t) &&& 85 = (a / 2) &&& 85 := by decide +kernel
theorem dec2 : ∀ a, a < 256 → ∀ t, t < 4 → (a / 4 + 64 * t) &&& 51 = (a / 4) &&& 51 := by decide +kernel
theorem dec3 : ∀ a, a < 256 → ∀ t, t < 16 → (a + a / 16 + 16 * t) &&& 15 = (a + a / 16) &&& 15 := by decide +kernel
theorem dec4 : ∀ a, a < 256 → b1F a < 256 ∧ b2F (b1F a) ≤ 68 ∧ b2F (b1F a) % 16 ≤ 4 ∧ b3F (b2F (b1F a)) = bcF 8 a := by decide +kernel
theorem s1_step {k a m : Nat} (ha : a < 256) : s1F (k + 1) (a + 256 * m) = b1F a + 256 * s1F k m := by
  show (a + 256 * m) - (((a + 256 * m) / 2) &&& (85 + 256 * mk8 85 k)) = (a - ((a / 2) &&& 85)) + 256 * (m - ((m / 2) &&& mk8 85 k))
  have e : (a + 256 * m) / 2 = (a / 2 + 128 * (m % 2)) + 256 * (m / 2) := by omega
  have d2 : (a / 2) &&& 85 ≤ a := Nat.le_trans Nat.and_le_left (Nat.div_le_self _ _)
  have d3 : (m / 2) &&& mk8 85 k ≤ m := Nat.le_trans Nat.and_le_left (Nat.div_le_self _ _)
  rw [e, and256 (by omega) (by decide), dec1 a ha (m % 2) (by omega)]
  generalize (a / 2) &&& 85 = u at d2 ⊢
  generalize (m / 2) &&& mk8 85 k = v at d3 ⊢
  omega
theorem s2_step {k a m : Nat} (ha : a < 256) : s2F (k + 1) (a + 256 * m) = b2F a + 256 * s2F k m := by
  show ((a + 256 * m) &&& (51 + 256 * mk8 51 k)) + (((a + 256 * m) / 4) &&& (51 + 256 * mk8 51 k)) = ((a &&& 51) + ((a / 4) &&& 51)) + 256 * ((m &&& mk8 51 k) + ((m / 4) &&& mk8 51 k))
  have e : (a + 256 * m) / 4 = (a / 4 + 64 * (m % 4)) + 256 * (m / 4) := by omega
  rw [e, and256 ha (by decide), and256 (by omega) (by decide), dec2 a ha (m % 4) (by omega)]
  generalize (a / 4) &&& 51 = u
  generalize (m / 4) &&& mk8 51 k = v
  generalize a &&& 51 = u2
  generalize m &&& mk8 51 k = v2
  omega
theorem s3_step {k a m : Nat} (ha : a ≤ 68) (hm : m % 16 ≤ 4) : s3F (k + 1) (a + 256 * m) = b3F a + 256 * s3F k m := by
  show ((a + 256 * m) + (a + 256 * m) / 16) &&& (15 + 256 * mk8 15 k) = ((a + a / 16) &&& 15) + 256 * ((m + m / 16) &&& mk8 15 k)
  have e : (a + 256 * m) + (a + 256 * m) / 16 = (a + a / 16 + 16 * (m % 16)) + 256 * (m + m / 16) := by omega
  rw [e, and256 (by omega) (by decide), dec3 a (by omega) (m % 16) (by omega)]
def ctB : Nat → Nat → Nat
  | 0, _ => 0
  | k + 1, n => bcF 8 (n % 256) + 256 * ctB k (n / 256)
theorem ctB_eq : ∀ k n, n < 256 ^ k → (s2F k (s1F k n)) % 16 ≤ 4 ∧ s3F k (s2F k (s1F k n)) = ctB k n
  | 0, n, h => by
    have : n = 0 := by simpa using h
    subst this
    decide
  | k + 1, n, h => by
    have hm : n / 256 < 256 ^ k := by rw [Nat.pow_succ] at h; exact Nat.div_lt_of_lt_mul (by rw [Nat.mul_comm]; exact h)
    obtain ⟨h1, h2⟩ := ctB_eq k (n / 256) hm
    obtain ⟨a1, a2, a3, a4⟩ := dec4 (n % 256) (Nat.mod_lt _ (by decide))
    have e : n = n % 256 + 256 * (n / 256) := by omega
    have e2 : s2F (k + 1) (s1F (k + 1) n) = b2F (b1F (n % 256)) + 256 * s2F k (s1F k (n / 256)) := by
      conv => lhs; rw [e]
      rw [s1_step (Nat.mod_lt _ (by decide)), s2_step a1]
    rw [e2]
    refine ⟨by omega, ?_⟩
    rw [s3_step a2 h1, a4, h2]
    rfl
theorem bcF_8 (f n : Nat) : bcF (f + 8) n = bcF 8 (n % 256) + bcF f (n / 256) := by
  show n % 2 + (n / 2 % 2 + (n / 2 / 2 % 2 + (n / 2 / 2 / 2 % 2 + (n / 2 / 2 / 2 / 2 % 2 + (n / 2 / 2 / 2 / 2 / 2 % 2 + (n / 2 / 2 / 2 / 2 / 2 / 2 % 2 + (n / 2 / 2 / 2 / 2 / 2 / 2 / 2 % 2 + bcF f (n / 2 / 2 / 2 / 2 / 2 / 2 / 2 / 2)))))))) = (n % 256) % 2 + ((n % 256) / 2 % 2 + ((n % 256) / 2 / 2 % 2 + ((n % 256) / 2 / 2 / 2 % 2 + ((n % 256) / 2 / 2 / 2 / 2 % 2 + ((n % 256) / 2 / 2 / 2 / 2 / 2 % 2 + ((n % 256) / 2 / 2 / 2 / 2 / 2 / 2 % 2 + ((n % 256) / 2 / 2 / 2 / 2 / 2 / 2 / 2 % 2 + 0))))))) + bcF f (n / 256)
  rw [show n / 2 / 2 / 2 / 2 / 2 / 2 / 2 / 2 = n / 256 by omega]
  generalize bcF f (n / 256) = u
  omega
theorem bc_bytes (n : Nat) : ∃ c0 c1 c2 c3 c4 c5 c6 c7 : Nat, c0 ≤ 8 ∧ c1 ≤ 8 ∧ c2 ≤ 8 ∧ c3 ≤ 8 ∧ c4 ≤ 8 ∧ c5 ≤ 8 ∧ c6 ≤ 8 ∧ c7 ≤ 8 ∧ ctB 8 n = c0 + 256 * (c1 + 256 * (c2 + 256 * (c3 + 256 * (c4 + 256 * (c5 + 256 * (c6 + 256 * c7)))))) ∧ bc n = c0 + (c1 + (c2 + (c3 + (c4 + (c5 + (c6 + c7)))))) := by
  refine ⟨_, _, _, _, _, _, _, _, bcF_le 8 (n % 256), bcF_le 8 (n / 256 % 256), bcF_le 8 (n / 256 / 256 % 256), bcF_le 8 (n / 256 / 256 / 256 % 256), bcF_le 8 (n / 256 / 256 / 256 / 256 % 256), bcF_le 8 (n / 256 / 256 / 256 / 256 / 256 % 256), bcF_le 8 (n / 256 / 256 / 256 / 256 / 256 / 256 % 256), bcF_le 8 (n / 256 / 256 / 256 / 256 / 256 / 256 / 256 % 256), rfl, ?_⟩
  have e : bcF 8 (n / 256 / 256 / 256 / 256 / 256 / 256 / 256) = bcF 8 (n / 256 / 256 / 256 / 256 / 256 / 256 / 256 % 256) := by
    have e9 := bcF_8 0 (n / 256 / 256 / 256 / 256 / 256 / 256 / 256)
    rw [show bcF 0 (n / 256 / 256 / 256 / 256 / 256 / 256 / 256 / 256) = 0 from rfl, Nat.add_zero] at e9
    exact e9
  unfold bc
  rw [bcF_8 56, bcF_8 48, bcF_8 40, bcF_8 32, bcF_8 24, bcF_8 16, bcF_8 8, e]
theorem mk8_5 : mk8 85 8 = 6148914691236517205 := by decide
theorem mk8_3 : mk8 51 8 = 3689348814741910323 := by decide
theorem mk8_f : mk8 15 8 = 1085102592571150095 := by decide
theorem dv8 {lo X : Nat} (h : lo < 256) : (lo + 256 * X) / 2 ^ 8 = X := by omega
theorem dv16 {lo X : Nat} (h : lo < 65536) : (lo + 65536 * X) / 2 ^ 16 = X := by omega
theorem dv32 {lo X : Nat} (h : lo < 4294967296) : (lo + 4294967296 * X) / 2 ^ 32 = X := by omega
theorem bl4 (c0 c1 c2 c3 c4 c5 c6 c7 : Nat) : (c0 + 256 * (c1 + 256 * (c2 + 256 * (c3 + 256 * (c4 + 256 * (c5 + 256 * (c6 + 256 * c7))))))) + (c1 + 256 * (c2 + 256 * (c3 + 256 * (c4 + 256 * (c5 + 256 * (c6 + 256 * c7)))))) = ((c0 + c1) + 256 * (c1 + c2)) + 65536 * ((c2 + c3) + 256 * ((c3 + c4) + 256 * ((c4 + c5) + 256 * ((c5 + c6) + 256 * ((c6 + c7) + 256 * c7))))) := by omega
theorem bl5 (u0 u1 u2 u3 u4 u5 u6 u7 : Nat) : ((u0 + 256 * u1) + 65536 * (u2 + 256 * (u3 + 256 * (u4 + 256 * (u5 + 256 * (u6 + 256 * u7)))))) + (u2 + 256 * (u3 + 256 * (u4 + 256 * (u5 + 256 * (u6 + 256 * u7))))) = ((u0 + u2) + 256 * (u1 + u3) + 65536 * (u2 + u4) + 16777216 * (u3 + u5)) + 4294967296 * ((u4 + u6) + 256 * ((u5 + u7) + 256 * (u6 + 256 * u7))) := by omega
theorem bl6 (v0 v1 v2 v3 v4 v5 : Nat) : ((v0 + 256 * v1 + 65536 * v2 + 16777216 * v3) + 4294967296 * (v4 + 256 * v5)) + (v4 + 256 * v5) = (v0 + v4) + 128 * (2 * v1 + 512 * v2 + 131072 * v3 + 33554432 * (v4 + 256 * v5) + 2 * v5) := by omega
theorem bc_fin {n z : Nat} (hz : z = ctB 8 n) : (z + z / 2 ^ 8 + (z + z / 2 ^ 8) / 2 ^ 16 + (z + z / 2 ^ 8 + (z + z / 2 ^ 8) / 2 ^ 16) / 2 ^ 32) % 128 = bc n := by
  obtain ⟨c0, c1, c2, c3, c4, c5, c6, c7, h0, h1, h2, h3, h4, h5, h6, h7, e1, e2⟩ := bc_bytes n
  rw [hz, e1, e2, dv8 (Nat.lt_of_le_of_lt h0 (by decide)), bl4, dv16 (lo := (c0 + c1) + 256 * (c1 + c2)) (by clear e1 e2 hz; omega), bl5, dv32 (lo := (c0 + c1 + (c2 + c3)) + 256 * (c1 + c2 + (c3 + c4)) + 65536 * (c2 + c3 + (c4 + c5)) + 16777216 * (c3 + c4 + (c5 + c6))) (by clear e1 e2 hz; omega), bl6, Nat.add_mul_mod_self_left, Nat.mod_eq_of_lt (by clear e1 e2 hz; omega)]
  clear e1 e2 hz
  omega
theorem x_Lo_bitCount {l : Launch} {g : kx_G} {d : Nat} {h : kx_Mem} (n : Nat) (hn : n < 2 ^ 64) : kx_Sp l g m_Lo_bitCount [.long (lN n)] h (d) 0 0 (fun v h' => v = some (.int (nI (bc n))) ∧ h' = h) := by
  refine kx_enter_e (lv := [_, _]) (by decide +kernel) (Nat.le_of_ble_eq_true rfl) rfl ?_
  refine kx_lload_n (pc := 0) (kx_dd d_Lo_bitCount 0 rfl) rfl rfl ?_
  refine kx_lload_n (pc := 1) (kx_dd d_Lo_bitCount 1 rfl) rfl rfl ?_
  refine kx_iconst (pc := 2) (v := 1) (kx_dd d_Lo_bitCount 2 rfl) rfl ?_
  refine kx_lushr (pc := 3) (kx_dd d_Lo_bitCount 3 rfl) ?_
  rw [lN_ush (k := 1) hn (by decide) (by decide)]
  refine kx_ldc2 (pc := 4) kl_Lo_314 (kx_dd d_Lo_bitCount 4 rfl) ?_
  refine kx_land (pc := 7) (kx_dd d_Lo_bitCount 5 rfl) ?_
  rw [show (6148914691236517205 : Int64) = lN (mk8 85 8) from by rw [mk8_5]; decide, lN_and]
  refine kx_lsub (pc := 8) (kx_dd d_Lo_bitCount 6 rfl) ?_
  rw [lN_sub (Nat.le_trans Nat.and_le_left (Nat.div_le_self _ _)), show n - (n / 2 ^ 1 &&& mk8 85 8) = s1F 8 n from rfl]
  have x1n : s1F 8 n < 2 ^ 64 := Nat.lt_of_le_of_lt (Nat.sub_le _ _) hn
  have ct := (ctB_eq 8 n (by rw [show (256 : Nat) ^ 8 = 2 ^ 64 from by decide]; exact hn)).2
  generalize s1F 8 n = x1 at x1n ct ⊢
  refine kx_lstore_ne (pc := 9) (lv' := [_, _]) (kx_dd d_Lo_bitCount 7 rfl) rfl (Nat.le_of_ble_eq_true rfl) rfl ?_
  refine kx_lload_n (pc := 10) (kx_dd d_Lo_bitCount 8 rfl) rfl rfl ?_
  refine kx_ldc2 (pc := 11) kl_Lo_316 (kx_dd d_Lo_bitCount 9 rfl) ?_
  refine kx_land (pc := 14) (kx_dd d_Lo_bitCount 10 rfl) ?_
  rw [show (3689348814741910323 : Int64) = lN (mk8 51 8) from by rw [mk8_3]; decide, lN_and]
  refine kx_lload_n (pc := 15) (kx_dd d_Lo_bitCount 11 rfl) rfl rfl ?_
  refine kx_iconst (pc := 16) (v := 2) (kx_dd d_Lo_bitCount 12 rfl) rfl ?_
  refine kx_lushr (pc := 17) (kx_dd d_Lo_bitCount 13 rfl) ?_
  rw [lN_ush (k := 2) x1n (by decide) (by decide)]
  refine kx_ldc2 (pc := 18) kl_Lo_316 (kx_dd d_Lo_bitCount 14 rfl) ?_
  refine kx_land (pc := 21) (kx_dd d_Lo_bitCount 15 rfl) ?_
  rw [show (3689348814741910323 : Int64) = lN (mk8 51 8) from by rw [mk8_3]; decide, lN_and]
  refine kx_ladd (pc := 22) (kx_dd d_Lo_bitCount 16 rfl) ?_
  rw [lN_add, show (x1 &&& mk8 51 8) + (x1 / 2 ^ 2 &&& mk8 51 8) = s2F 8 x1 from rfl]
  have x2n : s2F 8 x1 < 2 ^ 63 := by
    have u1 : x1 &&& mk8 51 8 ≤ mk8 51 8 := Nat.and_le_right
    have u2 : x1 / 4 &&& mk8 51 8 ≤ mk8 51 8 := Nat.and_le_right
    have u3 : s2F 8 x1 = (x1 &&& mk8 51 8) + (x1 / 4 &&& mk8 51 8) := rfl
    rw [mk8_3] at u1 u2 u3
    omega
  generalize s2F 8 x1 = x2 at x2n ct ⊢
  refine kx_lstore_ne (pc := 23) (lv' := [_, _]) (kx_dd d_Lo_bitCount 17 rfl) rfl (Nat.le_of_ble_eq_true rfl) rfl ?_
  refine kx_lload_n (pc := 24) (kx_dd d_Lo_bitCount 18 rfl) rfl rfl ?_
  refine kx_lload_n (pc := 25) (kx_dd d_Lo_bitCount 19 rfl) rfl rfl ?_
  refine kx_iconst (pc := 26) (v := 4) (kx_dd d_Lo_bitCount 20 rfl) rfl ?_
  refine kx_lushr (pc := 27) (kx_dd d_Lo_bitCount 21 rfl) ?_
  rw [lN_ush (k := 4) (by omega) (by decide) (by decide)]
  refine kx_ladd (pc := 28) (kx_dd d_Lo_bitCount 22 rfl) ?_
  rw [lN_add]
  refine kx_ldc2 (pc := 29) kl_Lo_318 (kx_dd d_Lo_bitCount 23 rfl) ?_
  refine kx_land (pc := 32) (kx_dd d_Lo_bitCount 24 rfl) ?_
  rw [show (1085102592571150095 : Int64) = lN (mk8 15 8) from by rw [mk8_f]; decide, lN_and, show (x2 + x2 / 2 ^ 4) &&& mk8 15 8 = s3F 8 x2 from rfl]
  have zn : s3F 8 x2 ≤ 1085102592571150095 := by
    have u1 : (x2 + x2 / 16) &&& mk8 15 8 ≤ mk8 15 8 := Nat.and_le_right
    rw [mk8_f] at u1
    exact u1
  generalize s3F 8 x2 = z at zn ct ⊢
  refine kx_lstore_ne (pc := 33) (lv' := [_, _]) (kx_dd d_Lo_bitCount 25 rfl) rfl (Nat.le_of_ble_eq_true rfl) rfl ?_
  refine kx_lload_n (pc := 34) (kx_dd d_Lo_bitCount 26 rfl) rfl rfl ?_
  refine kx_lload_n (pc := 35) (kx_dd d_Lo_bitCount 27 rfl) rfl rfl ?_
  refine kx_bipush (pc := 36) (v := 8) (kx_dd d_Lo_bitCount 28 rfl) rfl ?_
  refine kx_lushr (pc := 38) (kx_dd d_Lo_bitCount 29 rfl) ?_
  rw [lN_ush (k := 8) (by omega) (by decide) (by decide)]
  refine kx_ladd (pc := 39) (kx_dd d_Lo_bitCount 30 rfl) ?_
  rw [lN_add]
  refine kx_lstore_ne (pc := 40) (lv' := [_, _]) (kx_dd d_Lo_bitCount 31 rfl) rfl (Nat.le_of_ble_eq_true rfl) rfl ?_
  refine kx_lload_n (pc := 41) (kx_dd d_Lo_bitCount 32 rfl) rfl rfl ?_
  refine kx_lload_n (pc := 42) (kx_dd d_Lo_bitCount 33 rfl) rfl rfl ?_
  refine kx_bipush (pc := 43) (v := 16) (kx_dd d_Lo_bitCount 34 rfl) rfl ?_
  refine kx_lushr (pc := 45) (kx_dd d_Lo_bitCount 35 rfl) ?_
  rw [lN_ush (k := 16) (by omega) (by decide) (by decide)]
  refine kx_ladd (pc := 46) (kx_dd d_Lo_bitCount 36 rfl) ?_
  rw [lN_add]
  refine kx_lstore_ne (pc := 47) (lv' := [_, _]) (kx_dd d_Lo_bitCount 37 rfl) rfl (Nat.le_of_ble_eq_true rfl) rfl ?_
  refine kx_lload_n (pc := 48) (kx_dd d_Lo_bitCount 38 rfl) rfl rfl ?_
  refine kx_lload_n (pc := 49) (kx_dd d_Lo_bitCount 39 rfl) rfl rfl ?_
  refine kx_bipush (pc := 50) (v := 32) (kx_dd d_Lo_bitCount 40 rfl) rfl ?_
  refine kx_lushr (pc := 52) (kx_dd d_Lo_bitCount 41 rfl) ?_
  rw [lN_ush (k := 32) (by omega) (by decide) (by decide)]
  refine kx_ladd (pc := 53) (kx_dd d_Lo_bitCount 42 rfl) ?_
  rw [lN_add]
  refine kx_lstore_ne (pc := 54) (lv' := [_, _]) (kx_dd d_Lo_bitCount 43 rfl) rfl (Nat.le_of_ble_eq_true rfl) rfl ?_
  refine kx_lload_n (pc := 55) (kx_dd d_Lo_bitCount 44 rfl) rfl rfl ?_
  refine kx_l2i (pc := 56) (kx_dd d_Lo_bitCount 45 rfl) ?_
  rw [lN_i]
  refine kx_bipush (pc := 57) (v := 127) (kx_dd d_Lo_bitCount 46 rfl) rfl ?_
  refine kx_iand (pc := 59) (kx_dd d_Lo_bitCount 47 rfl) ?_
  rw [show (127 : Int32) = nI (2 ^ 7 - 1) from rfl, nI_and, Nat.and_two_pow_sub_one_eq_mod]
  refine kx_iret (pc := 60) rfl (kx_dd d_Lo_bitCount 48 rfl) (Nat.le_refl _) (Nat.le_refl _) ?_
  exact ⟨by rw [show (2 : Nat) ^ 7 = 128 from rfl, bc_fin ct], rfl⟩
theorem y_bitsOf_loop {l : Launch} {g : kx_G} {d : Nat} {h : kx_Mem} (m0 : Nat) : ∀ n m, m < n → m < 2 ^ 62 → bc m ≤ bc m0 → kx_X (l, g, m_Mo_bitsOf, d, 0, 0, (fun v h' => v = some (.int (nI (bc m0))) ∧ h' = h)) 0 0 4 [some (.long (lN m0)), none, some (.int (nI (bc m0 - bc m))), some (.long (lN m)), none] [] h := by
  intro n
  induction n with
  | zero => intro m hm; omega
  | succ n ih =>
    intro m hm hm2 hle
    refine kx_lload_n (pc := 4) (kx_dd d_Mo_bitsOf 4 rfl) rfl rfl ?_
    refine kx_lconst (pc := 5) (v := 0) (kx_dd d_Mo_bitsOf 5 rfl) rfl ?_
    refine kx_lcmp (pc := 6) (kx_dd d_Mo_bitsOf 6 rfl) ?_
    refine kx_if_eq (pc := 7) (tgt := 22) (kx_dd d_Mo_bitsOf 7 rfl) rfl (fun c7 => ?_) (fun c7 => ?_)
    · refine kx_iload_n (pc := 22) (kx_dd d_Mo_bitsOf 16 rfl) rfl rfl ?_
      refine kx_iret (pc := 23) rfl (kx_dd d_Mo_bitsOf 17 rfl) (Nat.le_refl _) (Nat.le_refl _) ?_
      rw [lN_z (by omega)] at c7
      subst c7
      exact ⟨by rw [show bc 0 = 0 from rfl, Nat.sub_zero], rfl⟩
    · refine kx_iinc_e (pc := 10) (v := nI (bc m0 - bc m + 1)) (lv' := [_, _, _, _, _]) (kx_dd d_Mo_bitsOf 8 rfl) rfl (Nat.le_of_ble_eq_true rfl) (nI_1 _) rfl ?_
      refine kx_lload_n (pc := 13) (kx_dd d_Mo_bitsOf 9 rfl) rfl rfl ?_
      refine kx_lload_n (pc := 14) (kx_dd d_Mo_bitsOf 10 rfl) rfl rfl ?_
      refine kx_lconst (pc := 15) (v := 1) (kx_dd d_Mo_bitsOf 11 rfl) rfl ?_
      refine kx_lsub (pc := 16) (kx_dd d_Mo_bitsOf 12 rfl) ?_
      refine kx_land (pc := 17) (kx_dd d_Mo_bitsOf 13 rfl) ?_
      refine kx_lstore_ne (pc := 18) (lv' := [_, _, _, _, _]) (kx_dd d_Mo_bitsOf 14 rfl) rfl (Nat.le_of_ble_eq_true rfl) rfl ?_
      refine kx_goto (pc := 19) (tgt := 4) (kx_dd d_Mo_bitsOf 15 rfl) rfl ?_
      rw [lN_z (by omega)] at c7
      have e := bc_and (m := m) (by omega) (by omega)
      have hlt : m &&& (m - 1) ≤ m - 1 := Nat.and_le_right
      have ih1 := ih (m &&& (m - 1)) (by omega) (by omega) (by omega)
      rw [show (1 : Int64) = lN 1 from rfl, lN_sub (by omega), lN_and]
      rw [show bc m0 - bc (m &&& (m - 1)) = bc m0 - bc m + 1 by omega] at ih1
      exact ih1
theorem y_bitsOf {l : Launch} {g : kx_G} {d : Nat} {h : kx_Mem} (m : Nat) (hm : m < 2 ^ 62) : kx_Sp l g m_Mo_bitsOf [.long (lN m)] h (d) 0 0 (fun v h' => v = some (.int (nI (bc m))) ∧ h' = h) := by
  refine kx_enter_e (lv := [_, _, _, _, _]) (by decide +kernel) (Nat.le_of_ble_eq_true rfl) rfl ?_
  refine kx_iconst (pc := 0) (v := 0) (kx_dd d_Mo_bitsOf 0 rfl) rfl ?_
  refine kx_istore_ne (pc := 1) (lv' := [_, _, _, _, _]) (kx_dd d_Mo_bitsOf 1 rfl) rfl (Nat.le_of_ble_eq_true rfl) rfl ?_
  refine kx_lload_n (pc := 2) (kx_dd d_Mo_bitsOf 2 rfl) rfl rfl ?_
  refine kx_lstore_ne (pc := 3) (lv' := [_, _, _, _, _]) (kx_dd d_Mo_bitsOf 3 rfl) rfl (Nat.le_of_ble_eq_true rfl) rfl ?_
  have e := y_bitsOf_loop (l := l) (g := g) (d := d) (h := h) m (m + 1) m (by omega) hm (Nat.le_refl _)
  rw [Nat.sub_self] at e
  exact e
theorem x_Ar_fill_loop {l : Launch} {g : kx_G} {d : Nat} {h0 : kx_Mem} (a : Nat) (ha : a < 1000000) (hk0 : h0.2.2.2.1 a = (51, 60)) (x : Int64) : ∀ f k, k + f = 60 → ∀ h, kx_Fg (fun _ _ => False) (fun b _ => b = a) h0 h → (∀ j, j < k → h.2.1 a j = x) → kx_X (l, g, m_Ar_fill, d, 0, 0, (fun v h' => v = none ∧ kx_Fg (fun _ _ => False) (fun b _ => b = a) h0 h' ∧ ∀ j, j < 60 → h'.2.1 a j = x)) 0 0 6 [some (.ref a), some (.long x), none, some (.int (nI k)), some (.int (nI 60))] [] h := by
  intro f
  induction f with
  | zero =>
    intro k hk h hf hx
    have e : k = 60 := by omega
    subst e
    have hk1 : h.2.2.2.1 a = (51, 60) := by rw [hf.2.2]; exact hk0
    refine kx_iload_n (pc := 6) (kx_dd d_Ar_fill 5 rfl) rfl rfl ?_
    refine kx_iload (pc := 7) (kx_dd d_Ar_fill 6 rfl) rfl ?_
    refine kx_icmp_ge (pc := 9) (tgt := 22) (kx_dd d_Ar_fill 7 rfl) rfl (fun c9 => ?_) (fun c9 => ?_)
    · refine kx_vret (pc := 22) rfl (kx_dd d_Ar_fill 14 rfl) (Nat.le_refl _) (Nat.le_refl _) ?_
      exact ⟨rfl, hf, hx⟩
    · exact absurd (Int32.le_refl _) c9
  | succ f ih =>
    intro k hk h hf hx
    have hk1 : h.2.2.2.1 a = (51, 60) := by rw [hf.2.2]; exact hk0
    refine kx_iload_n (pc := 6) (kx_dd d_Ar_fill 5 rfl) rfl rfl ?_
    refine kx_iload (pc := 7) (kx_dd d_Ar_fill 6 rfl) rfl ?_
    refine kx_icmp_ge (pc := 9) (tgt := 22) (kx_dd d_Ar_fill 7 rfl) rfl (fun c9 => ?_) (fun c9 => ?_)
    · exact absurd c9 (nI_ge (by omega) (by omega))
    · refine kx_aload_n (pc := 12) (kx_dd d_Ar_fill 8 rfl) rfl rfl ?_
      refine kx_iload_n (pc := 13) (kx_dd d_Ar_fill 9 rfl) rfl rfl ?_
      refine kx_lload_n (pc := 14) (kx_dd d_Ar_fill 10 rfl) rfl rfl ?_
      refine kx_lastn (pc := 15) k (hk1) ha rfl (by omega) (by decide) (kx_dd d_Ar_fill 11 rfl) ?_
      refine kx_iinc_e (pc := 16) (v := nI (k + 1)) (lv' := [_, _, _, _, _]) (kx_dd d_Ar_fill 12 rfl) rfl (Nat.le_of_ble_eq_true rfl) (nI_1 k) rfl ?_
      refine kx_goto (pc := 19) (tgt := 6) (kx_dd d_Ar_fill 13 rfl) rfl ?_
      refine ih (k + 1) (by omega) _ (hf.tr (kx_Fg.setL rfl)) (fun j hj => ?_)
      by_cases e : j = k
      · rw [e]; exact setL_at
      · rw [setL_ne (Or.inr e)]; exact hx j (by omega)
theorem x_Ar_fill {l : Launch} {g : kx_G} {d : Nat} {h : kx_Mem} (a : Nat) (ha : a < 1000000) (hk1 : h.2.2.2.1 a = (51, 60)) (x : Int64) : kx_Sp l g m_Ar_fill [.ref a, .long x] h (d) 0 0 (fun v h' => v = none ∧ kx_Fg (fun _ _ => False) (fun b _ => b = a) h h' ∧ ∀ j, j < 60 → h'.2.1 a j = x) := by
  refine kx_enter_e (lv := [_, _, _, _, _]) (by decide +kernel) (Nat.le_of_ble_eq_true rfl) rfl ?_
  refine kx_iconst (pc := 0) (v := 0) (kx_dd d_Ar_fill 0 rfl) rfl ?_
  refine kx_istore_ne (pc := 1) (lv' := [_, _, _, _, _]) (kx_dd d_Ar_fill 1 rfl) rfl (Nat.le_of_ble_eq_true rfl) rfl ?_
  refine kx_aload_n (pc := 2) (kx_dd d_Ar_fill 2 rfl) rfl rfl ?_
  refine kx_alen (pc := 3) (by rw [hk1]; decide) (by rw [hk1]) (kx_dd d_Ar_fill 3 rfl) ?_
  refine kx_istore_e (pc := 4) (lv' := [_, _, _, _, _]) (kx_dd d_Ar_fill 4 rfl) (Nat.le_of_ble_eq_true rfl) rfl ?_
  exact x_Ar_fill_loop a ha hk1 x 60 0 (by omega) h kx_Fg.rf (fun j hj => absurd hj (Nat.not_lt_zero j))
