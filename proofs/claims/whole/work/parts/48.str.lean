/-! String constants: what the start says of them; rows over them; String.length, charAt -/
def kx_stb : List (String × Nat × String × Nat × List Int32) := [("TreatyClaims$RulesReader", 46, "bar days chain rate split cap test late part order weigh need must either", 46, [98, 97, 114, 32, 100, 97, 121, 115, 32, 99, 104, 97, 105, 110, 32, 114, 97, 116, 101, 32, 115, 112, 108, 105, 116, 32, 99, 97, 112, 32, 116, 101, 115, 116, 32, 108, 97, 116, 101, 32, 112, 97, 114, 116, 32, 111, 114, 100, 101, 114, 32, 119, 101, 105, 103, 104, 32, 110, 101, 101, 100, 32, 109, 117, 115, 116, 32, 101, 105, 116, 104, 101, 114]), ("TreatyClaims$RulesReader", 86, "loss filing both always", 123, [108, 111, 115, 115, 32, 102, 105, 108, 105, 110, 103, 32, 98, 111, 116, 104, 32, 97, 108, 119, 97, 121, 115]), ("TreatyClaims$RulesReader", 92, "loss filing", 150, [108, 111, 115, 115, 32, 102, 105, 108, 105, 110, 103]), ("TreatyClaims$RulesReader", 94, "least mean umpire", 165, [108, 101, 97, 115, 116, 32, 109, 101, 97, 110, 32, 117, 109, 112, 105, 114, 101]), ("TreatyClaims$RulesReader", 122, "owner cargo lender insurer", 186, [111, 119, 110, 101, 114, 32, 99, 97, 114, 103, 111, 32, 108, 101, 110, 100, 101, 114, 32, 105, 110, 115, 117, 114, 101, 114]), ("TreatyClaimsModel", 116, "bar", 216, [98, 97, 114]), ("TreatyClaimsModel", 122, "days", 223, [100, 97, 121, 115]), ("TreatyClaimsModel", 124, "chain", 231, [99, 104, 97, 105, 110]), ("TreatyClaimsModel", 126, "order", 240, [111, 114, 100, 101, 114]), ("TreatyClaimsModel", 127, "rate", 249, [114, 97, 116, 101]), ("TreatyClaimsModel", 129, "split", 257, [115, 112, 108, 105, 116]), ("TreatyClaimsModel", 131, "cap", 266, [99, 97, 112]), ("TreatyClaimsModel", 133, "test", 273, [116, 101, 115, 116]), ("TreatyClaimsModel", 135, "late", 281, [108, 97, 116, 101]), ("TreatyClaimsModel", 137, "part", 289, [112, 97, 114, 116]), ("TreatyClaimsModel", 165, "loss", 297, [108, 111, 115, 115]), ("TreatyClaimsModel", 167, "filing", 305, [102, 105, 108, 105, 110, 103]), ("TreatyClaimsModel", 169, "both", 315, [98, 111, 116, 104]), ("TreatyClaimsModel", 171, "always", 323, [97, 108, 119, 97, 121, 115]), ("TreatyClaimsModel", 185, "owner", 333, [111, 119, 110, 101, 114]), ("TreatyClaimsModel", 187, "cargo", 342, [99, 97, 114, 103, 111]), ("TreatyClaimsModel", 189, "lender", 351, [108, 101, 110, 100, 101, 114]), ("TreatyClaimsModel", 191, "insurer", 361, [105, 110, 115, 117, 114, 101, 114]), ("TreatyClaimsModel", 179, "least", 372, [108, 101, 97, 115, 116]), ("TreatyClaimsModel", 181, "mean", 381, [109, 101, 97, 110]), ("TreatyClaimsModel", 183, "umpire", 389, [117, 109, 112, 105, 114, 101]), ("TreatyClaimsModel", 199, "weigh", 399, [119, 101, 105, 103, 104]), ("TreatyClaimsModel", 204, "need", 408, [110, 101, 101, 100]), ("TreatyClaimsModel", 212, "must", 416, [109, 117, 115, 116]), ("TreatyClaimsModel", 223, "either", 424, [101, 105, 116, 104, 101, 114])]
theorem ks_0 : Cond.stringRef "TreatyClaims$RulesReader" 46 "bar days chain rate split cap test late part order weigh need must either" ∈ lw_tbl := List.mem_append_right _ (List.mem_of_getElem? (i := 530) (by decide +kernel))
theorem ks_1 : Cond.stringRef "TreatyClaims$RulesReader" 86 "loss filing both always" ∈ lw_tbl := List.mem_append_right _ (List.mem_of_getElem? (i := 612) (by decide +kernel))
theorem ks_2 : Cond.stringRef "TreatyClaims$RulesReader" 92 "loss filing" ∈ lw_tbl := List.mem_append_right _ (List.mem_of_getElem? (i := 617) (by decide +kernel))
theorem ks_3 : Cond.stringRef "TreatyClaims$RulesReader" 94 "least mean umpire" ∈ lw_tbl := List.mem_append_right _ (List.mem_of_getElem? (i := 618) (by decide +kernel))
theorem ks_4 : Cond.stringRef "TreatyClaims$RulesReader" 122 "owner cargo lender insurer" ∈ lw_tbl := List.mem_append_right _ (List.mem_of_getElem? (i := 623) (by decide +kernel))
theorem ks_5 : Cond.stringRef "TreatyClaimsModel" 116 "bar" ∈ lw_tbl := List.mem_append_right _ (List.mem_of_getElem? (i := 1401) (by decide +kernel))
theorem ks_6 : Cond.stringRef "TreatyClaimsModel" 122 "days" ∈ lw_tbl := List.mem_append_right _ (List.mem_of_getElem? (i := 1408) (by decide +kernel))
theorem ks_7 : Cond.stringRef "TreatyClaimsModel" 124 "chain" ∈ lw_tbl := List.mem_append_right _ (List.mem_of_getElem? (i := 1409) (by decide +kernel))
theorem ks_8 : Cond.stringRef "TreatyClaimsModel" 126 "order" ∈ lw_tbl := List.mem_append_right _ (List.mem_of_getElem? (i := 1410) (by decide +kernel))
theorem ks_9 : Cond.stringRef "TreatyClaimsModel" 127 "rate" ∈ lw_tbl := List.mem_append_right _ (List.mem_of_getElem? (i := 1411) (by decide +kernel))
theorem ks_10 : Cond.stringRef "TreatyClaimsModel" 129 "split" ∈ lw_tbl := List.mem_append_right _ (List.mem_of_getElem? (i := 1412) (by decide +kernel))
theorem ks_11 : Cond.stringRef "TreatyClaimsModel" 131 "cap" ∈ lw_tbl := List.mem_append_right _ (List.mem_of_getElem? (i := 1413) (by decide +kernel))
theorem ks_12 : Cond.stringRef "TreatyClaimsModel" 133 "test" ∈ lw_tbl := List.mem_append_right _ (List.mem_of_getElem? (i := 1414) (by decide +kernel))
theorem ks_13 : Cond.stringRef "TreatyClaimsModel" 135 "late" ∈ lw_tbl := List.mem_append_right _ (List.mem_of_getElem? (i := 1415) (by decide +kernel))
theorem ks_14 : Cond.stringRef "TreatyClaimsModel" 137 "part" ∈ lw_tbl := List.mem_append_right _ (List.mem_of_getElem? (i := 1416) (by decide +kernel))
theorem ks_15 : Cond.stringRef "TreatyClaimsModel" 165 "loss" ∈ lw_tbl := List.mem_append_right _ (List.mem_of_getElem? (i := 1437) (by decide +kernel))
theorem ks_16 : Cond.stringRef "TreatyClaimsModel" 167 "filing" ∈ lw_tbl := List.mem_append_right _ (List.mem_of_getElem? (i := 1438) (by decide +kernel))
theorem ks_17 : Cond.stringRef "TreatyClaimsModel" 169 "both" ∈ lw_tbl := List.mem_append_right _ (List.mem_of_getElem? (i := 1439) (by decide +kernel))
theorem ks_18 : Cond.stringRef "TreatyClaimsModel" 171 "always" ∈ lw_tbl := List.mem_append_right _ (List.mem_of_getElem? (i := 1440) (by decide +kernel))
theorem ks_19 : Cond.stringRef "TreatyClaimsModel" 185 "owner" ∈ lw_tbl := List.mem_append_right _ (List.mem_of_getElem? (i := 1453) (by decide +kernel))
theorem ks_20 : Cond.stringRef "TreatyClaimsModel" 187 "cargo" ∈ lw_tbl := List.mem_append_right _ (List.mem_of_getElem? (i := 1454) (by decide +kernel))
theorem ks_21 : Cond.stringRef "TreatyClaimsModel" 189 "lender" ∈ lw_tbl := List.mem_append_right _ (List.mem_of_getElem? (i := 1455) (by decide +kernel))
theorem ks_22 : Cond.stringRef "TreatyClaimsModel" 191 "insurer" ∈ lw_tbl := List.mem_append_right _ (List.mem_of_getElem? (i := 1456) (by decide +kernel))
theorem ks_23 : Cond.stringRef "TreatyClaimsModel" 179 "least" ∈ lw_tbl := List.mem_append_right _ (List.mem_of_getElem? (i := 1457) (by decide +kernel))
theorem ks_24 : Cond.stringRef "TreatyClaimsModel" 181 "mean" ∈ lw_tbl := List.mem_append_right _ (List.mem_of_getElem? (i := 1458) (by decide +kernel))
theorem ks_25 : Cond.stringRef "TreatyClaimsModel" 183 "umpire" ∈ lw_tbl := List.mem_append_right _ (List.mem_of_getElem? (i := 1459) (by decide +kernel))
theorem ks_26 : Cond.stringRef "TreatyClaimsModel" 199 "weigh" ∈ lw_tbl := List.mem_append_right _ (List.mem_of_getElem? (i := 1464) (by decide +kernel))
theorem ks_27 : Cond.stringRef "TreatyClaimsModel" 204 "need" ∈ lw_tbl := List.mem_append_right _ (List.mem_of_getElem? (i := 1477) (by decide +kernel))
theorem ks_28 : Cond.stringRef "TreatyClaimsModel" 212 "must" ∈ lw_tbl := List.mem_append_right _ (List.mem_of_getElem? (i := 1478) (by decide +kernel))
theorem ks_29 : Cond.stringRef "TreatyClaimsModel" 223 "either" ∈ lw_tbl := List.mem_append_right _ (List.mem_of_getElem? (i := 1483) (by decide +kernel))
theorem kl_Sv : Cond.fieldLink "java/lang/String" 9 "java/lang/String" "value" "[B" ∈ kx_good := kx_in 2228 (by decide +kernel) rfl
theorem kl_Sc : Cond.fieldLink "java/lang/String" 15 "java/lang/String" "coder" "B" ∈ kx_good := kx_in 2229 (by decide +kernel) rfl
theorem kl_Sz : Cond.fieldLink "java/lang/String" 38 "java/lang/String" "COMPACT_STRINGS" "Z" ∈ kx_good ∧ Cond.laysStatic "java/lang/String" "COMPACT_STRINGS" "Z" ∈ lw_tbl ∧ Cond.initialized "java/lang/String" ∈ lw_tbl := ⟨kx_in 543 (by decide +kernel) rfl, List.mem_append_right _ (List.mem_of_getElem? (i := 544) (by decide +kernel)), List.mem_append_right _ (List.mem_of_getElem? (i := 19) (by decide +kernel))⟩
theorem kl_Sf : Cond.fieldLink "java/lang/String" 1053 "jdk/internal/util/Preconditions" "SIOOBE_FORMATTER" "Ljava/util/function/BiFunction;" ∈ kx_good ∧ Cond.laysStatic "jdk/internal/util/Preconditions" "SIOOBE_FORMATTER" "Ljava/util/function/BiFunction;" ∈ lw_tbl ∧ Cond.initialized "jdk/internal/util/Preconditions" ∈ lw_tbl := ⟨kx_in 559 (by decide +kernel) rfl, List.mem_append_right _ (List.mem_of_getElem? (i := 560) (by decide +kernel)), List.mem_append_right _ (List.mem_of_getElem? (i := 21) (by decide +kernel))⟩

def kx_flat : List Jvm.Cond := flatC (Jvm.Cond.and given_1 narrow_1)
theorem kx_narrow {args : Array Value} {s0 : State} (h : (Jvm.Cond.and given_1 narrow_1).before args s0 = true) (i : Nat) {c : Jvm.Cond} (hi : kx_flat[i]? = some c) : c.before args s0 = true := flat_of_before _ h _ (List.mem_of_getElem? hi)
abbrev kx_A (g : kx_G) : Nat → Prop := fun q => g.2.2.1 ≤ q
def kx_Sk (g : kx_G) (U : State) (H : Heap) (k n : Nat) (bs : Nat → Int32) : Prop :=
  va_O "java/lang/String" (g.2.2.2.1 (1000000 + k)) (kx_A g) U H ∧ va_OF "java/lang/String" "coder" "B" (.int 0) (g.2.2.2.1 (1000000 + k)) (kx_A g) U H ∧ va_OF "java/lang/String" "value" "[B" (.ref (g.2.2.2.1 (1000100 + k))) (g.2.2.2.1 (1000000 + k)) (kx_A g) U H ∧ va_T .byte (g.2.2.2.1 (1000100 + k)) n (fun j => .int (bs j)) (kx_A g) U H
def kx_sv (o : String) (i : Nat) : Jvm.Term := .field (.string o i) "java/lang/String" "value" "[B"
def kx_stbOk (k : Nat) : Prop := match kx_stb[k]? with
  | some (o, i, _, p, bs) => kx_flat[p]? = some (.exactly (.string o i) "java/lang/String") ∧ kx_flat[p + 1]? = some (.eq (.field (.string o i) "java/lang/String" "coder" "B") (.int 0)) ∧ kx_flat[p + 2]? = some (.arrayOf (kx_sv o i) .byte) ∧ kx_flat[p + 3]? = some (.eq (.length (kx_sv o i)) (.int (Int32.ofNat bs.length))) ∧ (∀ j, j < bs.length → kx_flat[p + 4 + j]? = some (.eq (.elem (kx_sv o i) (.int (Int32.ofNat j))) (.int (bs.getD j 0)))) ∧ bs.length < 100 ∧ kx_olds[k]? = some (.string o i, 1000000 + k) ∧ kx_olds[30 + k]? = some (kx_sv o i, 1000100 + k)
  | none => False
theorem kx_stb_0 : kx_stbOk 0 := ⟨by decide +kernel, by decide +kernel, by decide +kernel, by decide +kernel, by decide +kernel, by decide +kernel, rfl, rfl⟩
theorem kx_stb_1 : kx_stbOk 1 := ⟨by decide +kernel, by decide +kernel, by decide +kernel, by decide +kernel, by decide +kernel, by decide +kernel, rfl, rfl⟩
theorem kx_stb_2 : kx_stbOk 2 := ⟨by decide +kernel, by decide +kernel, by decide +kernel, by decide +kernel, by decide +kernel, by decide +kernel, rfl, rfl⟩
theorem kx_stb_3 : kx_stbOk 3 := ⟨by decide +kernel, by decide +kernel, by decide +kernel, by decide +kernel, by decide +kernel, by decide +kernel, rfl, rfl⟩
theorem kx_stb_4 : kx_stbOk 4 := ⟨by decide +kernel, by decide +kernel, by decide +kernel, by decide +kernel, by decide +kernel, by decide +kernel, rfl, rfl⟩
theorem kx_stb_5 : kx_stbOk 5 := ⟨by decide +kernel, by decide +kernel, by decide +kernel, by decide +kernel, by decide +kernel, by decide +kernel, rfl, rfl⟩
theorem kx_stb_6 : kx_stbOk 6 := ⟨by decide +kernel, by decide +kernel, by decide +kernel, by decide +kernel, by decide +kernel, by decide +kernel, rfl, rfl⟩
theorem kx_stb_7 : kx_stbOk 7 := ⟨by decide +kernel, by decide +kernel, by decide +kernel, by decide +kernel, by decide +kernel, by decide +kernel, rfl, rfl⟩
theorem kx_stb_8 : kx_stbOk 8 := ⟨by decide +kernel, by decide +kernel, by decide +kernel, by decide +kernel, by decide +kernel, by decide +kernel, rfl, rfl⟩
theorem kx_stb_9 : kx_stbOk 9 := ⟨by decide +kernel, by decide +kernel, by decide +kernel, by decide +kernel, by decide +kernel, by decide +kernel, rfl, rfl⟩
theorem kx_stb_10 : kx_stbOk 10 := ⟨by decide +kernel, by decide +kernel, by decide +kernel, by decide +kernel, by decide +kernel, by decide +kernel, rfl, rfl⟩
theorem kx_stb_11 : kx_stbOk 11 := ⟨by decide +kernel, by decide +kernel, by decide +kernel, by decide +kernel, by decide +kernel, by decide +kernel, rfl, rfl⟩
theorem kx_stb_12 : kx_stbOk 12 := ⟨by decide +kernel, by decide +kernel, by decide +kernel, by decide +kernel, by decide +kernel, by decide +kernel, rfl, rfl⟩
theorem kx_stb_13 : kx_stbOk 13 := ⟨by decide +kernel, by decide +kernel, by decide +kernel, by decide +kernel, by decide +kernel, by decide +kernel, rfl, rfl⟩
theorem kx_stb_14 : kx_stbOk 14 := ⟨by decide +kernel, by decide +kernel, by decide +kernel, by decide +kernel, by decide +kernel, by decide +kernel, rfl, rfl⟩
theorem kx_stb_15 : kx_stbOk 15 := ⟨by decide +kernel, by decide +kernel, by decide +kernel, by decide +kernel, by decide +kernel, by decide +kernel, rfl, rfl⟩
theorem kx_stb_16 : kx_stbOk 16 := ⟨by decide +kernel, by decide +kernel, by decide +kernel, by decide +kernel, by decide +kernel, by decide +kernel, rfl, rfl⟩
theorem kx_stb_17 : kx_stbOk 17 := ⟨by decide +kernel, by decide +kernel, by decide +kernel, by decide +kernel, by decide +kernel, by decide +kernel, rfl, rfl⟩
theorem kx_stb_18 : kx_stbOk 18 := ⟨by decide +kernel, by decide +kernel, by decide +kernel, by decide +kernel, by decide +kernel, by decide +kernel, rfl, rfl⟩
theorem kx_stb_19 : kx_stbOk 19 := ⟨by decide +kernel, by decide +kernel, by decide +kernel, by decide +kernel, by decide +kernel, by decide +kernel, rfl, rfl⟩
theorem kx_stb_20 : kx_stbOk 20 := ⟨by decide +kernel, by decide +kernel, by decide +kernel, by decide +kernel, by decide +kernel, by decide +kernel, rfl, rfl⟩
theorem kx_stb_21 : kx_stbOk 21 := ⟨by decide +kernel, by decide +kernel, by decide +kernel, by decide +kernel, by decide +kernel, by decide +kernel, rfl, rfl⟩
theorem kx_stb_22 : kx_stbOk 22 := ⟨by decide +kernel, by decide +kernel, by decide +kernel, by decide +kernel, by decide +kernel, by decide +kernel, rfl, rfl⟩
theorem kx_stb_23 : kx_stbOk 23 := ⟨by decide +kernel, by decide +kernel, by decide +kernel, by decide +kernel, by decide +kernel, by decide +kernel, rfl, rfl⟩
theorem kx_stb_24 : kx_stbOk 24 := ⟨by decide +kernel, by decide +kernel, by decide +kernel, by decide +kernel, by decide +kernel, by decide +kernel, rfl, rfl⟩
theorem kx_stb_25 : kx_stbOk 25 := ⟨by decide +kernel, by decide +kernel, by decide +kernel, by decide +kernel, by decide +kernel, by decide +kernel, rfl, rfl⟩
theorem kx_stb_26 : kx_stbOk 26 := ⟨by decide +kernel, by decide +kernel, by decide +kernel, by decide +kernel, by decide +kernel, by decide +kernel, rfl, rfl⟩
theorem kx_stb_27 : kx_stbOk 27 := ⟨by decide +kernel, by decide +kernel, by decide +kernel, by decide +kernel, by decide +kernel, by decide +kernel, rfl, rfl⟩
theorem kx_stb_28 : kx_stbOk 28 := ⟨by decide +kernel, by decide +kernel, by decide +kernel, by decide +kernel, by decide +kernel, by decide +kernel, rfl, rfl⟩
theorem kx_stb_29 : kx_stbOk 29 := ⟨by decide +kernel, by decide +kernel, by decide +kernel, by decide +kernel, by decide +kernel, by decide +kernel, rfl, rfl⟩
theorem kx_stb_ok : ∀ k, k < 30 → kx_stbOk k := by
  intro k hk
  match k, hk with
  | 0, _ => exact kx_stb_0
  | 1, _ => exact kx_stb_1
  | 2, _ => exact kx_stb_2
  | 3, _ => exact kx_stb_3
  | 4, _ => exact kx_stb_4
  | 5, _ => exact kx_stb_5
  | 6, _ => exact kx_stb_6
  | 7, _ => exact kx_stb_7
  | 8, _ => exact kx_stb_8
  | 9, _ => exact kx_stb_9
  | 10, _ => exact kx_stb_10
  | 11, _ => exact kx_stb_11
  | 12, _ => exact kx_stb_12
  | 13, _ => exact kx_stb_13
  | 14, _ => exact kx_stb_14
  | 15, _ => exact kx_stb_15
  | 16, _ => exact kx_stb_16
  | 17, _ => exact kx_stb_17
  | 18, _ => exact kx_stb_18
  | 19, _ => exact kx_stb_19
  | 20, _ => exact kx_stb_20
  | 21, _ => exact kx_stb_21
  | 22, _ => exact kx_stb_22
  | 23, _ => exact kx_stb_23
  | 24, _ => exact kx_stb_24
  | 25, _ => exact kx_stb_25
  | 26, _ => exact kx_stb_26
  | 27, _ => exact kx_stb_27
  | 28, _ => exact kx_stb_28
  | 29, _ => exact kx_stb_29
  | n + 30, h => exact absurd h (by omega)

theorem kx_sk {g : kx_G} {U : State} {h : kx_Mem} {H : Heap} (hE : kx_E g U) (hR : kx_Rel g h H) {k i p : Nat} {o tx : String} {bs : List Int32} (hk : kx_stb[k]? = some (o, i, tx, p, bs)) : kx_Sk g U H k bs.length (fun j => bs.getD j 0) ∧ (Cond.stringRef o i tx ∈ lw_tbl → vk_R o i tx (g.2.2.2.1 (1000000 + k)) U) := by
  have hk30 : k < 30 := (List.getElem?_eq_some_iff.mp hk).1
  have hok := kx_stb_ok k hk30
  unfold kx_stbOk at hok
  rw [hk] at hok
  obtain ⟨f0, f1, f2, f3, f4, f5, f6, f7⟩ := hok
  obtain ⟨s0, b, e1, e2, hW, hn, hg, ho, -⟩ := hE
  have eK := ho _ (List.mem_of_getElem? f6)
  have eV := ho _ (List.mem_of_getElem? f7)
  have hA : ∀ a : Nat, a < s0.heap.size → ¬ kx_A g a := fun a ha z => by
    have : g.2.2.1 ≤ a := z
    omega
  have hkeep : ∀ a : Nat, a < s0.heap.size → ¬ kx_A g a → H[a]? = s0.heap[a]? := fun a ha _ => by
    rw [e1]
    exact hR.2.2.1.2 a (by omega)
  obtain ⟨a, c, cA, kA, q1, q2, q3, q4, q5, q6, -⟩ := Cond.exactly_spec (args := #[Value.ref b]) (first := s0) (o := none) (s := s0) (idx := []) (t := .string o i) (cls := "java/lang/String") (kx_narrow hn _ f0)
  have hO : va_O "java/lang/String" a (kx_A g) s0 s0.heap := ⟨cA, q3, q5, by rw [q6]; exact q2, hA a (Array.getElem?_eq_some_iff.mp q3).1⟩
  have ea : a = g.2.2.2.1 (1000000 + k) := by
    have := q1.symm.trans eK
    injection this with this
    injection this
  rw [ea] at hO
  obtain ⟨t, ht, hT⟩ := va_Tof (f := fun j => .int (bs.getD j 0)) (A := kx_A g) (show bs.length < 2 ^ 31 by omega) (kx_narrow hn _ f2) (va_eqt (kx_narrow hn _ f3)) (fun j hj => va_eqt (kx_narrow hn _ (f4 j hj))) hA
  have et : t = g.2.2.2.1 (1000100 + k) := by
    have := ht.symm.trans eV
    injection this with this
    injection this
  rw [et] at hT
  exact ⟨⟨(hO.moved hW.alike).kept hkeep, ((vk_OFof eK (va_eqt (kx_narrow hn _ f1)) hA).moved hW.alike).kept hkeep, ((vk_OFof eK eV hA).moved hW.alike).kept hkeep, (hT.moved hW.alike).kept hkeep⟩, fun hs => (vk_R.of (hg _ hs) eK).warm hW⟩
theorem kx_adS (g : kx_G) (a : Nat) : kx_ad g (1000000 + a) = g.2.2.2.1 (1000000 + a) := by
  unfold kx_ad
  rw [if_neg (by omega)]
theorem kx_adV (g : kx_G) (a : Nat) : kx_ad g (1000100 + a) = g.2.2.2.1 (1000100 + a) := by
  unfold kx_ad
  rw [if_neg (by omega)]
/-- a static's value, as the start has it -/
theorem kx_Zof {g : kx_G} {U : State} {h : kx_Mem} {H : Heap} (hE : kx_E g U) (hR : kx_Rel g h H) {C n d : String} {v : Value} (h1 : Cond.laysStatic C n d ∈ lw_tbl) (h2 : Cond.initialized C ∈ lw_tbl) (hv : ∀ s0 b, (Jvm.Cond.and given_1 narrow_1).before #[Value.ref b] s0 = true → (∀ q ∈ kx_olds, q.1.eval #[Value.ref b] s0 none [] s0 = some (.ref (g.2.2.2.1 q.2))) → (Term.static C n d).eval #[Value.ref b] s0 none [] s0 = some v) : va_Z C n d v (kx_A g) U H := by
  obtain ⟨s0, b, e1, e2, hW, hn, hg, ho, -⟩ := hE
  have hA : ∀ a : Nat, a < s0.heap.size → ¬ kx_A g a := fun a ha z => by
    have : g.2.2.1 ≤ a := z
    omega
  exact ((va_Zof (A := kx_A g) (hg _ h1) (hg _ h2) (hv s0 b hn ho) hA).moved hW.alike).kept (fun a ha _ => by rw [e1]; exact hR.2.2.1.2 a (by omega))
theorem kx_Zq {g : kx_G} {U : State} {h : kx_Mem} {H : Heap} (hE : kx_E g U) (hR : kx_Rel g h H) {C n d : String} {k : Nat} (h1 : Cond.laysStatic C n d ∈ lw_tbl) (h2 : Cond.initialized C ∈ lw_tbl) (hm : (Jvm.Term.static C n d, 1000000 + k) ∈ kx_olds2) : ∃ r : Option Nat, va_Z C n d (kx_cv g (kx_rf r)) (kx_A g) U H := by
  obtain ⟨s0, b, e1, e2, hW, hn, hg, -, ho⟩ := hE
  have hA : ∀ a : Nat, a < s0.heap.size → ¬ kx_A g a := fun a ha z => by
    have : g.2.2.1 ≤ a := z
    omega
  rcases ho _ hm with hv | hv
  · exact ⟨none, ((va_Zof (A := kx_A g) (hg _ h1) (hg _ h2) hv hA).moved hW.alike).kept (fun a ha _ => by rw [e1]; exact hR.2.2.1.2 a (by omega))⟩
  · refine ⟨some (1000000 + k), ?_⟩
    show va_Z C n d (.ref (kx_ad g (1000000 + k))) (kx_A g) U H
    rw [kx_adS]
    exact ((va_Zof (A := kx_A g) (hg _ h1) (hg _ h2) hv hA).moved hW.alike).kept (fun a ha _ => by rw [e1]; exact hR.2.2.1.2 a (by omega))
section KXS
variable {f : kx_F} {cells slots pc : Nat} {lv : List (Option Value)} {st st0 : List Value} {h : kx_Mem}
theorem kx_ldcS {k i p : Nat} {o tx : String} {bs : List Int32} (hown : f.2.2.1.1.cls = o) (hk : kx_stb[k]? = some (o, i, tx, p, bs)) (hs : Cond.stringRef o i tx ∈ lw_tbl) (hd : decode f.2.2.1.2.1 pc = .ok (.ldc i, 2)) (kk : kx_X f cells slots (pc + 2) lv (.ref (1000000 + k) :: st) h) : kx_X f cells slots pc lv st h := by
  intro p e s m args below meth c C H locs ls hR hL hl
  obtain ⟨hx, hb, -, -, hcl, hts, -, -, hK⟩ := id C
  have hZ := (kx_sk hK.2.2.2 hR hk).2 hs
  rw [hown] at hcl
  have := kk p e s m args below meth c C H locs ls hR hL hl
  rw [List.map_cons, show kx_cv f.2.1 (.ref (1000000 + k)) = .ref (f.2.1.2.2.2.1 (1000000 + k)) from congrArg Value.ref (kx_adS _ _)] at this
  exact va_ldcS hx hb hcl hZ hd this
theorem kx_getZ {C n d : String} {idx : Nat} {v : Value} (hl : Cond.fieldLink f.2.2.1.1.cls idx C n d ∈ kx_good) (hz : ∀ U H, kx_E f.2.1 U → kx_Rel f.2.1 h H → va_Z C n d (kx_cv f.2.1 v) (kx_A f.2.1) U H) (hd : decode f.2.2.1.2.1 pc = .ok (.getstatic idx, 3)) (kk : kx_X f cells slots (pc + 3) lv (v :: st) h) : kx_X f cells slots pc lv st h := by
  intro p e s m args below meth c C H locs ls hR hL hlv
  obtain ⟨hx, hb, -, -, hcl, hts, -, -, hK⟩ := id C
  obtain ⟨cf, kf, fi, fd, a, cell, h1, h2, h3, h4, h5, h6, h7, h8⟩ := hz s H hK.2.2.2 hR
  exact W.gets hx hb hcl (hts _ hl) h1 h2 h3 h4 h5 (fun z => by rw [z] at h6; cases h6) h7 rfl hd (kk p e s m args below meth c C H locs ls hR hL hlv)
theorem kx_getQ0 {C n d : String} {idx : Nat} (hl : Cond.fieldLink f.2.2.1.1.cls idx C n d ∈ kx_good) (hz : ∀ U H, kx_E f.2.1 U → kx_Rel f.2.1 h H → ∃ r : Option Nat, va_Z C n d (kx_cv f.2.1 (kx_rf r)) (kx_A f.2.1) U H) (hd : decode f.2.2.1.2.1 pc = .ok (.getstatic idx, 3)) (kk : ∀ r : Option Nat, kx_X f cells slots (pc + 3) lv (kx_rf r :: st) h) : kx_X f cells slots pc lv st h := by
  intro p e s m args below meth c C H locs ls hR hL hlv
  obtain ⟨hx, hb, -, -, hcl, hts, -, -, hK⟩ := id C
  obtain ⟨r, cf, kf, fi, fd, a, cell, h1, h2, h3, h4, h5, h6, h7, h8⟩ := hz s H hK.2.2.2 hR
  exact W.gets hx hb hcl (hts _ hl) h1 h2 h3 h4 h5 (fun z => by rw [z] at h6; cases h6) h7 rfl hd (kk r p e s m args below meth c C H locs ls hR hL hlv)
theorem kx_getSv {k i p : Nat} {o tx : String} {bs : List Int32} (hcl0 : f.2.2.1.1.cls = "java/lang/String") (hk : kx_stb[k]? = some (o, i, tx, p, bs)) (hd : decode f.2.2.1.2.1 pc = .ok (.getfield 9, 3)) (kk : kx_X f cells slots (pc + 3) lv (.ref (1000100 + k) :: st) h) : kx_X f cells slots pc lv (.ref (1000000 + k) :: st) h := by
  intro p e s m args below meth c C H locs ls hR hL hlv
  obtain ⟨hx, hb, -, -, hcl, hts, -, -, hK⟩ := id C
  obtain ⟨cf, kf, fi, fd, cell, h1, h2, h3, h4, h5, h6⟩ := (kx_sk hK.2.2.2 hR hk).1.2.2.1
  rw [hcl0] at hcl
  have := kk p e s m args below meth c C H locs ls hR hL hlv
  rw [List.map_cons, show kx_cv f.2.1 (.ref (1000100 + k)) = .ref (f.2.1.2.2.2.1 (1000100 + k)) from congrArg Value.ref (kx_adV _ _)] at this
  rw [List.map_cons, show kx_cv f.2.1 (.ref (1000000 + k)) = .ref (f.2.1.2.2.2.1 (1000000 + k)) from congrArg Value.ref (kx_adS _ _)]
  exact W.getf hx hb hcl (hts _ kl_Sv) h1 h2 h3 h4 h5 rfl rfl hd this
theorem kx_getSc {k i p : Nat} {o tx : String} {bs : List Int32} (hcl0 : f.2.2.1.1.cls = "java/lang/String") (hk : kx_stb[k]? = some (o, i, tx, p, bs)) (hd : decode f.2.2.1.2.1 pc = .ok (.getfield 15, 3)) (kk : kx_X f cells slots (pc + 3) lv (.int 0 :: st) h) : kx_X f cells slots pc lv (.ref (1000000 + k) :: st) h := by
  intro p e s m args below meth c C H locs ls hR hL hlv
  obtain ⟨hx, hb, -, -, hcl, hts, -, -, hK⟩ := id C
  obtain ⟨cf, kf, fi, fd, cell, h1, h2, h3, h4, h5, h6⟩ := (kx_sk hK.2.2.2 hR hk).1.2.1
  rw [hcl0] at hcl
  have := kk p e s m args below meth c C H locs ls hR hL hlv
  rw [List.map_cons, show kx_cv f.2.1 (.ref (1000000 + k)) = .ref (f.2.1.2.2.2.1 (1000000 + k)) from congrArg Value.ref (kx_adS _ _)]
  exact W.getf hx hb hcl (hts _ kl_Sc) h1 h2 h3 h4 h5 rfl rfl hd this
theorem kx_alenS {k i p : Nat} {o tx : String} {bs : List Int32} (hk : kx_stb[k]? = some (o, i, tx, p, bs)) (hd : decode f.2.2.1.2.1 pc = .ok (.arraylength, 1)) (kk : kx_X f cells slots (pc + 1) lv (.int (nI bs.length) :: st) h) : kx_X f cells slots pc lv (.ref (1000100 + k) :: st) h := by
  intro p e s m args below meth c C H locs ls hR hL hlv
  obtain ⟨hx, hb, -, -, hcl, hts, -, -, hK⟩ := id C
  obtain ⟨cell, h1, h2, h3, h4, h5, h6, h7⟩ := (kx_sk hK.2.2.2 hR hk).1.2.2.2
  rw [List.map_cons, show kx_cv f.2.1 (.ref (1000100 + k)) = .ref (f.2.1.2.2.2.1 (1000100 + k)) from congrArg Value.ref (kx_adV _ _)]
  exact W.alen hx hb h1 h2 h5 rfl rfl hd (kk p e s m args below meth c C H locs ls hR hL hlv)
theorem kx_baldS {k i p j : Nat} {o tx : String} {bs : List Int32} (hk : kx_stb[k]? = some (o, i, tx, p, bs)) (hj : j < bs.length) (hd : decode f.2.2.1.2.1 pc = .ok (.baload, 1)) (kk : kx_X f cells slots (pc + 1) lv (.int (bs.getD j 0) :: st) h) : kx_X f cells slots pc lv (.int (nI j) :: .ref (1000100 + k) :: st) h := by
  intro p e s m args below meth c C H locs ls hR hL hlv
  obtain ⟨hx, hb, -, -, hcl, hts, -, -, hK⟩ := id C
  have hk30 : k < 30 := (List.getElem?_eq_some_iff.mp hk).1
  have hok := kx_stb_ok k hk30
  unfold kx_stbOk at hok
  rw [hk] at hok
  have hlen := hok.2.2.2.2.2.1
  obtain ⟨cell, h1, h2, h3, h4, h5, h6, h7⟩ := (kx_sk hK.2.2.2 hR hk).1.2.2.2
  rw [List.map_cons, List.map_cons, show kx_cv f.2.1 (.ref (1000100 + k)) = .ref (f.2.1.2.2.2.1 (1000100 + k)) from congrArg Value.ref (kx_adV _ _)]
  have ec : (nI j).toNatClampNeg = j := nI_clamp (by omega)
  refine W.bald hx hb h1 h2 h3 (fun z => ?_) (by rw [ec]; exact h6 j hj) rfl rfl hd (kk p e s m args below meth c C H locs ls hR hL hlv)
  rcases z with z | z
  · exact absurd z (nI_pos (by omega))
  · rw [ec] at z
    omega
variable {ν : kx_M} {n idx d' mc' ms' : Nat} {Q' : Option Value → kx_Mem → Prop}
theorem kx_invR {a : Nat} {as : List Value} (hd : decode f.2.2.1.2.1 pc = .ok (.invokevirtual idx, 3)) (hl0 : kx_LV f.2.2.1.1.cls idx ν) (hw : kx_MW ν n) (hrv : ∀ s H, kx_K f.2.1 s → kx_Rel f.2.1 h H → ∃ cell : Cell, H[kx_ad f.2.1 a]? = some cell ∧ cell.vm.isStatics = false ∧ s.vm.findClass ν.1.cls = some cell.cls) (hst : st0 = as.reverse ++ .ref a :: st) (hn : as.length = n) (hcat : (st.map fun v => v.category).sum ≤ 8)
    (hM : kx_Sp f.1 f.2.1 ν (.ref a :: as) h d' mc' ms' Q') (hdd : d' + 1 ≤ f.2.2.2.1) (hf : cells + mc' ≤ f.2.2.2.2.1 ∧ slots + ms' ≤ f.2.2.2.2.2.1) (kk : ∀ v h', Q' v h' → kx_X f (cells + mc') (slots + ms') (pc + 3) lv (v.toList ++ st) h') : kx_X f cells slots pc lv st0 h := by
  intro p e s m args below meth c C H locs ls hR hL hl
  obtain ⟨hx, hb, -, hml, hown, hts, -, hnm, hK⟩ := id C
  have hrecv := hrv s H hK hR
  have hpre := kx_preS (as := .ref a :: as) hK hR
  have hpv : PreV s H ν.1.cls (kx_ad f.2.1 a) (kx_Pc f.2.1 (.ref a :: as) h) (as.map (kx_cv f.2.1)) := ⟨hpre.1, hrecv, hpre.2⟩
  have hlen : (as.map (kx_cv f.2.1)).length = n := by rw [List.length_map]; exact hn
  have hstk : st0.map (kx_cv f.2.1) = (as.map (kx_cv f.2.1)).reverse ++ .ref (kx_ad f.2.1 a) :: st.map (kx_cv f.2.1) := by rw [hst]; simp [kx_cv]
  have hcat' : ((st.map (kx_cv f.2.1)).map fun v => v.category).sum ≤ 8 := by rw [List.map_map]; simpa [Function.comp_def, kx_cv_cat] using hcat
  have h13 := hw.2.2.2.2.1
  have hbd : (kx_room d' mc' ms').frames + 1 ≤ (kx_room f.2.2.2.1 f.2.2.2.2.1 f.2.2.2.2.2.1).frames ∧ 8 + (ν.2.2.1 + 11) + (kx_room d' mc' ms').locals ≤ (kx_room f.2.2.2.1 f.2.2.2.2.1 f.2.2.2.2.2.1).locals := ⟨hdd, by show 8 + (ν.2.2.1 + 11) + 32 * d' ≤ 32 * f.2.2.2.1; omega⟩
  obtain ⟨hlk, hin, hse⟩ := hl0
  rcases hlk with hlk | ⟨host, hlk⟩
  · exact kx_after (va_runV (bytes := ν.2.1) (maxL := ν.2.2.1) (ret := ν.2.2.2) (Ts := kx_good) ⟨hx, hb, hml, hown, hts⟩ hM ⟨⟨rfl, rfl, hbd.1, hbd.2, kx_good_in hw hts, List.mem_cons_self, hts _ hw.1, hts _ hw.2.1, hw.2.2.1, kx_desc hw, hts _ hlk⟩, hts _ hin, hts _ hse⟩ hpv rfl hlen hl.1 hstk (lv_room hcat') hd hf) C hL hl kk
  · exact kx_after (va_runVN (bytes := ν.2.1) (maxL := ν.2.2.1) (ret := ν.2.2.2) (Ts := kx_good) ⟨hx, hb, hml, hown, hts⟩ hM ⟨⟨⟨rfl, rfl, hbd.1, hbd.2, kx_good_in hw hts, List.mem_cons_self⟩, hts _ hw.1, hts _ hw.2.1, hw.2.2.1, kx_desc hw, va_Nw.use rfl (hK.2.2.1 _ hlk)⟩, hts _ hin, hts _ hse⟩ hpv rfl hlen hl.1 hstk (lv_room hcat') hd hf) C hL hl kk
end KXS
theorem kx_recvS {g : kx_G} {s : State} {h : kx_Mem} {H : Heap} {k i p : Nat} {o tx : String} {bs : List Int32} (hk : kx_stb[k]? = some (o, i, tx, p, bs)) (hK : kx_K g s) (hR : kx_Rel g h H) : ∃ cell : Cell, H[kx_ad g (1000000 + k)]? = some cell ∧ cell.vm.isStatics = false ∧ s.vm.findClass "java/lang/String" = some cell.cls := by
  obtain ⟨cell, h1, h2, h3, -⟩ := (kx_sk hK.2.2.2 hR hk).1.1
  exact ⟨cell, by rw [kx_adS]; exact h1, h2, h3⟩

theorem x_Sg_coder {l : Launch} {g : kx_G} {d : Nat} {h : kx_Mem} {k i p : Nat} {o tx : String} {bs : List Int32} (hk : kx_stb[k]? = some (o, i, tx, p, bs)) : kx_Sp l g m_Sg_coder [.ref (1000000 + k)] h d 0 0 (fun v h' => v = some (.int 0) ∧ h' = h) := by
  refine kx_enter_e (lv := [_]) (by decide +kernel) (Nat.le_of_ble_eq_true rfl) rfl ?_
  refine kx_getZ (v := .int 1) kl_Sz.1 (fun U H hE hR => kx_Zof hE hR kl_Sz.2.1 kl_Sz.2.2 (fun s0 b hn _ => va_eqt (kx_narrow hn 8 (by decide +kernel)))) (kx_dd d_Sg_coder 0 rfl) ?_
  refine kx_if_eq (pc := 3) (tgt := 13) (kx_dd d_Sg_coder 1 rfl) rfl (fun c => absurd c (by decide)) (fun _ => ?_)
  refine kx_aload_n (pc := 6) (kx_dd d_Sg_coder 2 rfl) rfl rfl ?_
  refine kx_getSc (pc := 7) rfl hk (kx_dd d_Sg_coder 3 rfl) ?_
  refine kx_goto (pc := 10) (tgt := 14) (kx_dd d_Sg_coder 4 rfl) rfl ?_
  refine kx_zret (pc := 14) rfl rfl (kx_dd d_Sg_coder 6 rfl) (Nat.le_refl _) (Nat.le_refl _) ?_
  exact ⟨rfl, rfl⟩
theorem x_Sg_isLatin1 {l : Launch} {g : kx_G} {d : Nat} {h : kx_Mem} {k i p : Nat} {o tx : String} {bs : List Int32} (hk : kx_stb[k]? = some (o, i, tx, p, bs)) : kx_Sp l g m_Sg_isLatin1 [.ref (1000000 + k)] h d 0 0 (fun v h' => v = some (.int 1) ∧ h' = h) := by
  refine kx_enter_e (lv := [_]) (by decide +kernel) (Nat.le_of_ble_eq_true rfl) rfl ?_
  refine kx_getZ (v := .int 1) kl_Sz.1 (fun U H hE hR => kx_Zof hE hR kl_Sz.2.1 kl_Sz.2.2 (fun s0 b hn _ => va_eqt (kx_narrow hn 8 (by decide +kernel)))) (kx_dd d_Sg_isLatin1 0 rfl) ?_
  refine kx_if_eq (pc := 3) (tgt := 17) (kx_dd d_Sg_isLatin1 1 rfl) rfl (fun c => absurd c (by decide)) (fun _ => ?_)
  refine kx_aload_n (pc := 6) (kx_dd d_Sg_isLatin1 2 rfl) rfl rfl ?_
  refine kx_getSc (pc := 7) rfl hk (kx_dd d_Sg_isLatin1 3 rfl) ?_
  refine kx_if_ne (pc := 10) (tgt := 17) (kx_dd d_Sg_isLatin1 4 rfl) rfl (fun c => absurd rfl c) (fun _ => ?_)
  refine kx_iconst (pc := 13) (v := 1) (kx_dd d_Sg_isLatin1 5 rfl) rfl ?_
  refine kx_goto (pc := 14) (tgt := 18) (kx_dd d_Sg_isLatin1 6 rfl) rfl ?_
  refine kx_zret (pc := 18) rfl rfl (kx_dd d_Sg_isLatin1 8 rfl) (Nat.le_refl _) (Nat.le_refl _) ?_
  exact ⟨rfl, rfl⟩
theorem x_Sg_length {l : Launch} {g : kx_G} {d : Nat} {h : kx_Mem} {k i p : Nat} {o tx : String} {bs : List Int32} (hk : kx_stb[k]? = some (o, i, tx, p, bs)) : kx_Sp l g m_Sg_length [.ref (1000000 + k)] h (d + 1) 0 0 (fun v h' => v = some (.int (nI bs.length)) ∧ h' = h) := by
  refine kx_enter_e (lv := [_]) (by decide +kernel) (Nat.le_of_ble_eq_true rfl) rfl ?_
  refine kx_aload_n (pc := 0) (kx_dd d_Sg_length 0 rfl) rfl rfl ?_
  refine kx_getSv (pc := 1) rfl hk (kx_dd d_Sg_length 1 rfl) ?_
  refine kx_alenS (pc := 4) hk (kx_dd d_Sg_length 2 rfl) ?_
  refine kx_aload_n (pc := 5) (kx_dd d_Sg_length 3 rfl) rfl rfl ?_
  refine kx_invR (pc := 6) (a := (1000000 + k)) (as := []) (kx_dd d_Sg_length 4 rfl) ⟨lk_Sg_335, wi_Sg_coder, we_Sg_coder⟩ w_Sg_coder (fun s H hK hR => kx_recvS hk hK hR) rfl rfl (Nat.le_of_ble_eq_true rfl) (x_Sg_coder (d := d) hk) (Nat.le_refl _) ⟨Nat.le_refl _, Nat.le_refl _⟩ (fun v h' hq => ?_)
  obtain ⟨rfl, he⟩ := hq
  rw [he]
  clear he
  refine kx_ishr (pc := 9) (kx_dd d_Sg_length 5 rfl) ?_
  refine kx_iret (pc := 10) rfl (kx_dd d_Sg_length 6 rfl) (Nat.le_refl _) (Nat.le_refl _) ?_
  exact ⟨by rw [show (0 : Int32) &&& 31 = 0 from rfl, Int32.shiftRight_zero], rfl⟩
def chS (x : Int32) : Int32 := ((x &&& 255).toUInt32 % 65536).toInt32
theorem chS_nar (x : Int32) : narrow .char (.int (chS x)) = .int (chS x) := by
  unfold chS
  rw [sc_c2]
  exact sc_nar x
theorem kx_stb_len {k i p : Nat} {o tx : String} {bs : List Int32} (hk : kx_stb[k]? = some (o, i, tx, p, bs)) : bs.length < 100 := by
  have hok := kx_stb_ok k (List.getElem?_eq_some_iff.mp hk).1
  unfold kx_stbOk at hok
  rw [hk] at hok
  exact hok.2.2.2.2.2.1
theorem x_Pr_checkIndex9 {l : Launch} {g : kx_G} {d : Nat} {h : kx_Mem} (i n : Nat) (hi : i < n) (hn : n < 2 ^ 31) (r : Option Nat) : kx_Sp l g m_Pr_checkIndex [.int (nI i), .int (nI n), kx_rf r] h (d) 0 0 (fun v h' => v = some (.int (nI i)) ∧ h' = h) := by
  cases r with
  | none =>
    exact x_Pr_checkIndex i n hi hn
  | some r =>
    refine kx_enter_e (lv := [_, _, _]) (by decide +kernel) (Nat.le_of_ble_eq_true rfl) rfl ?_
    refine kx_iload_n (pc := 0) (kx_dd d_Pr_checkIndex 0 rfl) rfl rfl ?_
    refine kx_if_lt (pc := 1) (tgt := 9) (kx_dd d_Pr_checkIndex 1 rfl) rfl (fun c1 => ?_) (fun c1 => ?_)
    · exact absurd c1 (nI_pos (by omega))
    · refine kx_iload_n (pc := 4) (kx_dd d_Pr_checkIndex 2 rfl) rfl rfl ?_
      refine kx_iload_n (pc := 5) (kx_dd d_Pr_checkIndex 3 rfl) rfl rfl ?_
      refine kx_icmp_lt (pc := 6) (tgt := 16) (kx_dd d_Pr_checkIndex 4 rfl) rfl (fun c6 => ?_) (fun c6 => ?_)
      · refine kx_iload_n (pc := 16) (kx_dd d_Pr_checkIndex 10 rfl) rfl rfl ?_
        refine kx_iret (pc := 17) rfl (kx_dd d_Pr_checkIndex 11 rfl) (Nat.le_refl _) (Nat.le_refl _) ?_
        exact ⟨rfl, rfl⟩
      · exact absurd (nI_lt hi hn) c6
theorem x_Sg_checkIndex {l : Launch} {g : kx_G} {d : Nat} {h : kx_Mem} (i n : Nat) (hi : i < n) (hn : n < 2 ^ 31) : kx_Sp l g m_Sg_checkIndex [.int (nI i), .int (nI n)] h (d + 1) 0 0 (fun v h' => v = none ∧ h' = h) := by
  refine kx_enter_e (lv := [_, _]) (by decide +kernel) (Nat.le_of_ble_eq_true rfl) rfl ?_
  refine kx_iload_n (pc := 0) (kx_dd d_Sg_checkIndex 0 rfl) rfl rfl ?_
  refine kx_iload_n (pc := 1) (kx_dd d_Sg_checkIndex 1 rfl) rfl rfl ?_
  refine kx_getQ0 (pc := 2) kl_Sf.1 (fun U H hE hR => kx_Zq (k := 200) hE hR kl_Sf.2.1 kl_Sf.2.2 (List.mem_of_getElem? (i := 0) rfl)) (kx_dd d_Sg_checkIndex 2 rfl) (fun r => ?_)
  refine kx_invS (pc := 5) (as := [_, _, _]) (kx_dd d_Sg_checkIndex 3 rfl) ⟨lk_Sg_1059, wt_Pr_checkIndex⟩ w_Pr_checkIndex rfl rfl (Nat.le_of_ble_eq_true rfl) (x_Pr_checkIndex9 (d := d) i n hi hn r) (Nat.le_refl _) ⟨Nat.le_refl _, Nat.le_refl _⟩ (fun v h' hq => ?_)
  obtain ⟨rfl, he⟩ := hq
  rw [he]
  clear he
  refine kx_pop (pc := 8) (kx_dd d_Sg_checkIndex 4 rfl) rfl ?_
  refine kx_vret (pc := 9) rfl (kx_dd d_Sg_checkIndex 5 rfl) (Nat.le_refl _) (Nat.le_refl _) ?_
  exact ⟨rfl, rfl⟩
theorem x_SL_charAt {l : Launch} {g : kx_G} {d : Nat} {h : kx_Mem} {k i p : Nat} {o tx : String} {bs : List Int32} (hk : kx_stb[k]? = some (o, i, tx, p, bs)) (j : Nat) (hj : j < bs.length) : kx_Sp l g m_SL_charAt [.ref (1000100 + k), .int (nI j)] h (d + 2) 0 0 (fun v h' => v = some (.int (chS (bs.getD j 0))) ∧ h' = h) := by
  have hlen : bs.length < 100 := kx_stb_len hk
  refine kx_enter_e (lv := [_, _]) (by decide +kernel) (Nat.le_of_ble_eq_true rfl) rfl ?_
  refine kx_iload_n (pc := 0) (kx_dd d_SL_charAt 0 rfl) rfl rfl ?_
  refine kx_aload_n (pc := 1) (kx_dd d_SL_charAt 1 rfl) rfl rfl ?_
  refine kx_alenS (pc := 2) hk (kx_dd d_SL_charAt 2 rfl) ?_
  refine kx_invS (pc := 3) (as := [_, _]) (kx_dd d_SL_charAt 3 rfl) ⟨lk_SL_9, wt_Sg_checkIndex⟩ w_Sg_checkIndex rfl rfl (Nat.le_of_ble_eq_true rfl) (x_Sg_checkIndex (d := d) j bs.length hj (by omega)) (Nat.le_refl _) ⟨Nat.le_refl _, Nat.le_refl _⟩ (fun v h' hq => ?_)
  obtain ⟨rfl, he⟩ := hq
  rw [he]
  clear he
  refine kx_aload_n (pc := 6) (kx_dd d_SL_charAt 4 rfl) rfl rfl ?_
  refine kx_iload_n (pc := 7) (kx_dd d_SL_charAt 5 rfl) rfl rfl ?_
  refine kx_baldS (pc := 8) hk hj (kx_dd d_SL_charAt 6 rfl) ?_
  refine kx_sipush (pc := 9) (v := 255) (kx_dd d_SL_charAt 7 rfl) rfl ?_
  refine kx_iand (pc := 12) (kx_dd d_SL_charAt 8 rfl) ?_
  refine kx_i2c (pc := 13) (kx_dd d_SL_charAt 9 rfl) ?_
  refine kx_zret (pc := 14) rfl (chS_nar _) (kx_dd d_SL_charAt 10 rfl) (Nat.le_refl _) (Nat.le_refl _) ?_
  exact ⟨rfl, rfl⟩
theorem x_Sg_charAt {l : Launch} {g : kx_G} {d : Nat} {h : kx_Mem} {k i p : Nat} {o tx : String} {bs : List Int32} (hk : kx_stb[k]? = some (o, i, tx, p, bs)) (j : Nat) (hj : j < bs.length) : kx_Sp l g m_Sg_charAt [.ref (1000000 + k), .int (nI j)] h (d + 3) 0 0 (fun v h' => v = some (.int (chS (bs.getD j 0))) ∧ h' = h) := by
  refine kx_enter_e (lv := [_, _]) (by decide +kernel) (Nat.le_of_ble_eq_true rfl) rfl ?_
  refine kx_aload_n (pc := 0) (kx_dd d_Sg_charAt 0 rfl) rfl rfl ?_
  refine kx_invR (pc := 1) (a := (1000000 + k)) (as := []) (kx_dd d_Sg_charAt 1 rfl) ⟨lk_Sg_492, wi_Sg_isLatin1, we_Sg_isLatin1⟩ w_Sg_isLatin1 (fun s H hK hR => kx_recvS hk hK hR) rfl rfl (Nat.le_of_ble_eq_true rfl) (x_Sg_isLatin1 (d := d + 2) hk) (Nat.le_refl _) ⟨Nat.le_refl _, Nat.le_refl _⟩ (fun v h' hq => ?_)
  obtain ⟨rfl, he⟩ := hq
  rw [he]
  clear he
  refine kx_if_eq (pc := 4) (tgt := 16) (kx_dd d_Sg_charAt 2 rfl) rfl (fun c => absurd c (by decide)) (fun _ => ?_)
  refine kx_aload_n (pc := 7) (kx_dd d_Sg_charAt 3 rfl) rfl rfl ?_
  refine kx_getSv (pc := 8) rfl hk (kx_dd d_Sg_charAt 4 rfl) ?_
  refine kx_iload_n (pc := 11) (kx_dd d_Sg_charAt 5 rfl) rfl rfl ?_
  refine kx_invS (pc := 12) (as := [_, _]) (kx_dd d_Sg_charAt 6 rfl) ⟨lk_Sg_495, wt_SL_charAt⟩ w_SL_charAt rfl rfl (Nat.le_of_ble_eq_true rfl) (x_SL_charAt (d := d) hk j hj) (Nat.le_refl _) ⟨Nat.le_refl _, Nat.le_refl _⟩ (fun v h' hq => ?_)
  obtain ⟨rfl, he⟩ := hq
  rw [he]
  clear he
  refine kx_zret (pc := 15) rfl (chS_nar _) (kx_dd d_Sg_charAt 7 rfl) (Nat.le_refl _) (Nat.le_refl _) ?_
  exact ⟨rfl, rfl⟩
