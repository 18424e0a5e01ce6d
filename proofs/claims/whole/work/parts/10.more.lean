/-! typed reads; Math; small words -/
section KXT
variable {f : kx_F} {cells slots pc : Nat} {lv : List (Option Value)} {st : List Value} {h : kx_Mem}
theorem kx_getI {a idx ci j : Nat} (hf : kx_FL f.2.2.1.1.cls idx ci j) (hk : (h.2.2.2.1 a).1 = ci + 1) (hty : kx_ty ci j = .int) (hd : decode f.2.2.1.2.1 pc = .ok (.getfield idx, 3)) (k : kx_X f cells slots (pc + 3) lv (.int (h.1 a j) :: st) h) : kx_X f cells slots pc lv (.ref a :: st) h :=
  kx_getf hf hk hd (by rw [hty]; exact k)
theorem kx_getL {a idx ci j : Nat} (hf : kx_FL f.2.2.1.1.cls idx ci j) (hk : (h.2.2.2.1 a).1 = ci + 1) (hty : kx_ty ci j = .long) (hd : decode f.2.2.1.2.1 pc = .ok (.getfield idx, 3)) (k : kx_X f cells slots (pc + 3) lv (.long (h.2.1 a j) :: st) h) : kx_X f cells slots pc lv (.ref a :: st) h :=
  kx_getf hf hk hd (by rw [hty]; exact k)
theorem kx_getQ {a idx ci j : Nat} (hf : kx_FL f.2.2.1.1.cls idx ci j) (hk : (h.2.2.2.1 a).1 = ci + 1) (hty : (kx_ty ci j).isReference = true) (hd : decode f.2.2.1.2.1 pc = .ok (.getfield idx, 3)) (k : kx_X f cells slots (pc + 3) lv (kx_rf (h.2.2.1 a j) :: st) h) : kx_X f cells slots pc lv (.ref a :: st) h := by
  refine kx_getf hf hk hd ?_
  revert hty
  cases kx_ty ci j <;> simp [FieldType.isReference, kx_mv] <;> intros <;> exact k
theorem kx_getR {a b idx ci j : Nat} (hf : kx_FL f.2.2.1.1.cls idx ci j) (hk : (h.2.2.2.1 a).1 = ci + 1) (hty : (kx_ty ci j).isReference = true) (hv : h.2.2.1 a j = some b) (hd : decode f.2.2.1.2.1 pc = .ok (.getfield idx, 3)) (k : kx_X f cells slots (pc + 3) lv (.ref b :: st) h) : kx_X f cells slots pc lv (.ref a :: st) h := by
  refine kx_getQ hf hk hty hd ?_
  rw [hv]
  exact k
theorem kx_aldR {a b k0 : Nat} {i : Int32} (hk : (h.2.2.2.1 a).1 = k0) (hk0 : k0 = 54 ∨ k0 = 55 ∨ k0 = 56) (hin : vp_in i (h.2.2.2.1 a).2) (hv : h.2.2.1 a i.toNatClampNeg = some b) (hd : decode f.2.2.1.2.1 pc = .ok (.aaload, 1)) (k : kx_X f cells slots (pc + 1) lv (.ref b :: st) h) : kx_X f cells slots pc lv (.int i :: .ref a :: st) h := by
  rcases hk0 with rfl | rfl | rfl
  · exact kx_ald54 hk hin hd (by rw [hv]; exact k)
  · exact kx_ald55 hk hin hd (by rw [hv]; exact k)
  · exact kx_ald56 hk hin hd (by rw [hv]; exact k)

theorem kx_wmmax : Cond.static Lib.Math.max.name ∈ kx_good ∧ Cond.initialized "java/lang/Math" ∈ kx_good ∧ Cond.code Lib.Math.max.name Lib.Math.max.code 2 (some .int) ∈ kx_good := ⟨kx_in 475 (by decide +kernel) rfl, kx_in 18 (by decide +kernel) rfl, kx_in 476 (by decide +kernel) rfl⟩
theorem kx_mmax {index : Nat} {x y : Int32} (hw : Cond.methodLink f.2.2.1.1.cls index Lib.Math.max.name ∈ kx_good) (hd : decode f.2.2.1.2.1 pc = .ok (.invokestatic index, 3)) (hdd : 1 ≤ f.2.2.2.1) (hcat : (st.map fun v => v.category).sum ≤ 8) (hc : cells ≤ f.2.2.2.2.1) (hs : slots ≤ f.2.2.2.2.2.1) (k : kx_X f cells slots (pc + 3) lv (.int (if x < y then y else x) :: st) h) : kx_X f cells slots pc lv (.int y :: .int x :: st) h := by
  intro p e s m args below meth c C H locs ls hR hL hl
  obtain ⟨hx, hb, -, hml, hown, hts, -, hnm, hK⟩ := id C
  have hcat' : ((st.map (kx_cv f.2.1)).map fun v => v.category).sum ≤ 8 := by rw [List.map_map]; simpa [Function.comp_def, kx_cv_cat] using hcat
  exact va_mmax hx hb (hml.trans hl.1.symm) hown (hts _ hw) (hts _ kx_wmmax.1) (hts _ kx_wmmax.2.1) (hts _ kx_wmmax.2.2) hdd (by show _ ≤ 32 * f.2.2.2.1; omega) hc hs hd (k p e s m args below meth c C H locs ls hR hL hl)
theorem kx_wmmin : Cond.static Lib.Math.min.name ∈ kx_good ∧ Cond.initialized "java/lang/Math" ∈ kx_good ∧ Cond.code Lib.Math.min.name Lib.Math.min.code 2 (some .int) ∈ kx_good := ⟨kx_in 781 (by decide +kernel) rfl, kx_in 18 (by decide +kernel) rfl, kx_in 782 (by decide +kernel) rfl⟩
theorem kx_mmin {index : Nat} {x y : Int32} (hw : Cond.methodLink f.2.2.1.1.cls index Lib.Math.min.name ∈ kx_good) (hd : decode f.2.2.1.2.1 pc = .ok (.invokestatic index, 3)) (hdd : 1 ≤ f.2.2.2.1) (hcat : (st.map fun v => v.category).sum ≤ 8) (hc : cells ≤ f.2.2.2.2.1) (hs : slots ≤ f.2.2.2.2.2.1) (k : kx_X f cells slots (pc + 3) lv (.int (if y < x then y else x) :: st) h) : kx_X f cells slots pc lv (.int y :: .int x :: st) h := by
  intro p e s m args below meth c C H locs ls hR hL hl
  obtain ⟨hx, hb, -, hml, hown, hts, -, hnm, hK⟩ := id C
  have hcat' : ((st.map (kx_cv f.2.1)).map fun v => v.category).sum ≤ 8 := by rw [List.map_map]; simpa [Function.comp_def, kx_cv_cat] using hcat
  exact va_mmin hx hb (hml.trans hl.1.symm) hown (hts _ hw) (hts _ kx_wmmin.1) (hts _ kx_wmmin.2.1) (hts _ kx_wmmin.2.2) hdd (by show _ ≤ 32 * f.2.2.2.1; omega) hc hs hd (k p e s m args below meth c C H locs ls hR hL hl)
theorem kx_wmmaxL : Cond.static Lib.MathLoose.max_long.x ∈ kx_good ∧ Cond.initialized "java/lang/Math" ∈ kx_good ∧ Cond.code Lib.MathLoose.max_long.x Lib.MathLoose.max_long.code 4 (some .long) ∈ kx_good := ⟨kx_in 2113 (by decide +kernel) rfl, kx_in 18 (by decide +kernel) rfl, kx_in 2114 (by decide +kernel) rfl⟩
theorem kx_mmaxL {index : Nat} {x y : Int64} (hw : Cond.methodLink f.2.2.1.1.cls index Lib.MathLoose.max_long.x ∈ kx_good) (hd : decode f.2.2.1.2.1 pc = .ok (.invokestatic index, 3)) (hdd : 1 ≤ f.2.2.2.1) (hcat : (st.map fun v => v.category).sum ≤ 8) (hc : cells ≤ f.2.2.2.2.1) (hs : slots ≤ f.2.2.2.2.2.1) (k : kx_X f cells slots (pc + 3) lv (.long (if y < x then x else y) :: st) h) : kx_X f cells slots pc lv (.long y :: .long x :: st) h := by
  intro p e s m args below meth c C H locs ls hR hL hl
  obtain ⟨hx, hb, -, hml, hown, hts, -, hnm, hK⟩ := id C
  have hcat' : ((st.map (kx_cv f.2.1)).map fun v => v.category).sum ≤ 8 := by rw [List.map_map]; simpa [Function.comp_def, kx_cv_cat] using hcat
  exact va_mmax_long hx hb (hml.trans hl.1.symm) hown (hts _ hw) (hts _ kx_wmmaxL.1) (hts _ kx_wmmaxL.2.1) (hts _ kx_wmmaxL.2.2) hdd (by show _ ≤ 32 * f.2.2.2.1; omega) hc hs hd (k p e s m args below meth c C H locs ls hR hL hl)
theorem kx_wmminL : Cond.static Lib.MathLoose.min_long.x ∈ kx_good ∧ Cond.initialized "java/lang/Math" ∈ kx_good ∧ Cond.code Lib.MathLoose.min_long.x Lib.MathLoose.min_long.code 4 (some .long) ∈ kx_good := ⟨kx_in 809 (by decide +kernel) rfl, kx_in 18 (by decide +kernel) rfl, kx_in 810 (by decide +kernel) rfl⟩
theorem kx_mminL {index : Nat} {x y : Int64} (hw : Cond.methodLink f.2.2.1.1.cls index Lib.MathLoose.min_long.x ∈ kx_good) (hd : decode f.2.2.1.2.1 pc = .ok (.invokestatic index, 3)) (hdd : 1 ≤ f.2.2.2.1) (hcat : (st.map fun v => v.category).sum ≤ 8) (hc : cells ≤ f.2.2.2.2.1) (hs : slots ≤ f.2.2.2.2.2.1) (k : kx_X f cells slots (pc + 3) lv (.long (if y < x then y else x) :: st) h) : kx_X f cells slots pc lv (.long y :: .long x :: st) h := by
  intro p e s m args below meth c C H locs ls hR hL hl
  obtain ⟨hx, hb, -, hml, hown, hts, -, hnm, hK⟩ := id C
  have hcat' : ((st.map (kx_cv f.2.1)).map fun v => v.category).sum ≤ 8 := by rw [List.map_map]; simpa [Function.comp_def, kx_cv_cat] using hcat
  exact va_mmin_long hx hb (hml.trans hl.1.symm) hown (hts _ hw) (hts _ kx_wmminL.1) (hts _ kx_wmminL.2.1) (hts _ kx_wmminL.2.2) hdd (by show _ ≤ 32 * f.2.2.2.1; omega) hc hs hd (k p e s m args below meth c C H locs ls hR hL hl)
end KXT
theorem mk_Tc_254 : Cond.methodLink "TreatyClaims" 254 Lib.Math.min.name ∈ kx_good := kx_in 1151 (by decide +kernel) rfl
theorem mk_Tc_279 : Cond.methodLink "TreatyClaims" 279 Lib.Math.max.name ∈ kx_good := kx_in 1197 (by decide +kernel) rfl
theorem mk_Cl_67 : Cond.methodLink "TreatyClaims$Claim" 67 Lib.MathLoose.min_long.x ∈ kx_good := kx_in 1267 (by decide +kernel) rfl
theorem mk_Do_186 : Cond.methodLink "TreatyClaims$Docket" 186 Lib.Math.max.name ∈ kx_good := kx_in 1165 (by decide +kernel) rfl
theorem mk_Do_192 : Cond.methodLink "TreatyClaims$Docket" 192 Lib.MathLoose.min_long.x ∈ kx_good := kx_in 1166 (by decide +kernel) rfl
theorem mk_Fu_46 : Cond.methodLink "TreatyClaims$Fund" 46 Lib.MathLoose.min_long.x ∈ kx_good := kx_in 1300 (by decide +kernel) rfl
theorem mk_Fu_94 : Cond.methodLink "TreatyClaims$Fund" 94 Lib.Math.max.name ∈ kx_good := kx_in 1334 (by decide +kernel) rfl
theorem mk_Fu_98 : Cond.methodLink "TreatyClaims$Fund" 98 Lib.Math.min.name ∈ kx_good := kx_in 1339 (by decide +kernel) rfl
theorem mk_Pe_60 : Cond.methodLink "TreatyClaims$People" 60 Lib.Math.max.name ∈ kx_good := kx_in 474 (by decide +kernel) rfl
theorem mk_Ra_33 : Cond.methodLink "TreatyClaims$Rates" 33 Lib.MathLoose.min_long.x ∈ kx_good := kx_in 808 (by decide +kernel) rfl
theorem mk_Te_56 : Cond.methodLink "TreatyClaims$TestCases" 56 Lib.Math.min.name ∈ kx_good := kx_in 1220 (by decide +kernel) rfl
theorem mk_Th_54 : Cond.methodLink "TreatyClaims$Things" 54 Lib.Math.max.name ∈ kx_good := kx_in 787 (by decide +kernel) rfl
theorem mk_Th_60 : Cond.methodLink "TreatyClaims$Things" 60 Lib.Math.min.name ∈ kx_good := kx_in 780 (by decide +kernel) rfl
theorem mk_Mo_489 : Cond.methodLink "TreatyClaimsModel" 489 Lib.Math.min.name ∈ kx_good := kx_in 1988 (by decide +kernel) rfl
theorem mk_Mo_517 : Cond.methodLink "TreatyClaimsModel" 517 Lib.MathLoose.min_long.x ∈ kx_good := kx_in 1999 (by decide +kernel) rfl
theorem mk_Mo_541 : Cond.methodLink "TreatyClaimsModel" 541 Lib.Math.max.name ∈ kx_good := kx_in 2041 (by decide +kernel) rfl
theorem mk_Mo_574 : Cond.methodLink "TreatyClaimsModel" 574 Lib.MathLoose.max_long.x ∈ kx_good := kx_in 2112 (by decide +kernel) rfl
theorem mk_AL_79 : Cond.methodLink "java/util/ArrayList" 79 Lib.Math.max.name ∈ kx_good := kx_in 962 (by decide +kernel) rfl
theorem mk_Ar_304 : Cond.methodLink "java/util/Arrays" 304 Lib.Math.min.name ∈ kx_good := kx_in 958 (by decide +kernel) rfl
theorem mk_AS_194 : Cond.methodLink "jdk/internal/util/ArraysSupport" 194 Lib.Math.max.name ∈ kx_good := kx_in 925 (by decide +kernel) rfl
/-- static structure: references that never change, kinds and lengths -/
def kx_SS (R T : List (Nat × Nat × Nat)) (h : kx_Mem) : Prop := (∀ q ∈ R, h.2.2.1 q.1 q.2.1 = some q.2.2) ∧ ∀ q ∈ T, h.2.2.2.1 q.1 = (q.2.1, q.2.2)
theorem kx_SS.r {R T : List (Nat × Nat × Nat)} {h : kx_Mem} (hs : kx_SS R T h) (k : Nat) {a j b : Nat} (hk : R[k]? = some (a, j, b)) : h.2.2.1 a j = some b := hs.1 _ (List.mem_of_getElem? hk)
theorem kx_SS.k {R T : List (Nat × Nat × Nat)} {h : kx_Mem} (hs : kx_SS R T h) (k : Nat) {a c n : Nat} (hk : T[k]? = some (a, c, n)) : (h.2.2.2.1 a).1 = c := by rw [hs.2 _ (List.mem_of_getElem? hk)]
theorem kx_SS.n {R T : List (Nat × Nat × Nat)} {h : kx_Mem} (hs : kx_SS R T h) (k : Nat) {a c n : Nat} (hk : T[k]? = some (a, c, n)) : (h.2.2.2.1 a).2 = n := by rw [hs.2 _ (List.mem_of_getElem? hk)]
/-- a truth as an int -/
def bI (c : Prop) [Decidable c] : Int32 := if c then 1 else 0
theorem bI_t {c : Prop} [Decidable c] (h : c) : bI c = 1 := if_pos h
theorem bI_f {c : Prop} [Decidable c] (h : ¬ c) : bI c = 0 := if_neg h
