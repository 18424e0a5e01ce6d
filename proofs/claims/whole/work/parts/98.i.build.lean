/-! building: rows for constructors -/
/-- a memory under construction: how many objects; references and kinds that are set; ints are as E says; longs are 0; rules at L are the plain ones -/
def Bd (E : Nat → Nat → Int32 → Prop) (R T : List (Nat × Nat × Nat)) (L : List Nat) (N : Nat) (h : kx_Mem) : Prop := h.2.2.2.2 = N ∧ ((∀ q ∈ R, q.1 < N) ∧ ∀ q ∈ T, q.1 < N) ∧ kx_SS R T h ∧ ((∀ a j, E a j (h.1 a j)) ∧ ∀ a j, N ≤ a → E a j 0) ∧ (∀ a j, h.2.1 a j = 0) ∧ ∀ a ∈ L, a + 8 < N ∧ RUc ru0 a h
theorem RUc.eq {r : RU} {a : Nat} {h h' : kx_Mem} (hp : RUc r a h) (hf : ∀ x j, a ≤ x → x ≤ a + 8 → h'.1 x j = h.1 x j) (hl : ∀ x j, a ≤ x → x ≤ a + 8 → h'.2.1 x j = h.2.1 x j) : RUc r a h' := by
  have e : ∀ x j, a ≤ x ∧ x ≤ a + 8 → h'.1 x j = h.1 x j := fun x j hx => hf x j hx.1 hx.2
  have eL : ∀ x j, a ≤ x ∧ x ≤ a + 8 → h'.2.1 x j = h.2.1 x j := fun x j hx => hl x j hx.1 hx.2
  obtain ⟨h1, h2, h3, h4, h5, h6, h7, h8, h9⟩ := hp
  exact ⟨fun k hk => by rw [e _ _ (by omega)]; exact h1 k hk, fun k hk => by rw [e _ _ (by omega)]; exact h2 k hk, by rw [e _ _ (by omega)]; exact h3, fun k hk => ⟨by rw [eL _ _ (by omega)]; exact (h4 k hk).1, by rw [e _ _ (by omega)]; exact (h4 k hk).2⟩, by rw [e _ _ (by omega)]; exact h5, fun k hk => ⟨by rw [eL _ _ (by omega)]; exact (h6 k hk).1, by rw [e _ _ (by omega)]; exact (h6 k hk).2⟩, by rw [e _ _ (by omega)]; exact h7, by rw [e _ _ (by omega)]; exact h8, fun i y hy => ⟨by rw [eL _ _ (by omega)]; exact (h9 i y hy).1, by rw [e _ _ (by omega)]; exact (h9 i y hy).2⟩⟩
section BD
variable {E : Nat → Nat → Int32 → Prop} {R T : List (Nat × Nat × Nat)} {L : List Nat} {N : Nat} {h : kx_Mem}
theorem Bd.new {kd len : Nat} (hB : Bd E R T L N h) : Bd E R ((N, kd, len) :: T) L (N + 1) (kx_new h kd len) := by
  obtain ⟨b1, ⟨b2, b3⟩, ⟨b4, b5⟩, ⟨b6, b6z⟩, b7, b8⟩ := hB
  subst b1
  refine ⟨rfl, ⟨fun q hq => Nat.lt_succ_of_lt (b2 q hq), fun q hq => ?_⟩, ⟨fun q hq => ?_, fun q hq => ?_⟩, ⟨fun a j => ?_, fun a j ha => b6z a j (by omega)⟩, fun a j => ?_, fun a ha => ⟨Nat.lt_succ_of_lt (b8 a ha).1, (b8 a ha).2.eq (fun x j _ hx => ?_) (fun x j _ hx => ?_)⟩⟩
  · rcases List.mem_cons.mp hq with rfl | hq
    · exact Nat.lt_succ_self _
    · exact Nat.lt_succ_of_lt (b3 q hq)
  · show (if q.1 = h.2.2.2.2 then none else h.2.2.1 q.1 q.2.1) = _
    rw [if_neg (Nat.ne_of_lt (b2 q hq))]; exact b4 q hq
  · show (if q.1 = h.2.2.2.2 then (kd, len) else h.2.2.2.1 q.1) = _
    rcases List.mem_cons.mp hq with rfl | hq
    · rw [if_pos rfl]
    · rw [if_neg (Nat.ne_of_lt (b3 q hq))]; exact b5 q hq
  · show E a j (if a = h.2.2.2.2 then 0 else h.1 a j)
    split
    next e => exact b6z a j (Nat.le_of_eq e.symm)
    · exact b6 a j
  · show (if a = h.2.2.2.2 then 0 else h.2.1 a j) = 0
    split
    · rfl
    · exact b7 a j
  · show (if x = h.2.2.2.2 then 0 else h.1 x j) = _
    rw [if_neg (by have := (b8 a ha).1; omega)]
  · show (if x = h.2.2.2.2 then 0 else h.2.1 x j) = _
    rw [if_neg (by have := (b8 a ha).1; omega)]
theorem Bd.setR {a j v : Nat} (hB : Bd E R T L N h) (ha : a < N) (hn : ∀ q ∈ R, ¬ (q.1 = a ∧ q.2.1 = j)) : Bd E ((a, j, v) :: R) T L N (kx_setR h a j (some v)) := by
  obtain ⟨b1, ⟨b2, b3⟩, ⟨b4, b5⟩, b6, b7, b8⟩ := hB
  refine ⟨b1, ⟨fun q hq => ?_, b3⟩, ⟨fun q hq => ?_, b5⟩, b6, b7, b8⟩
  · rcases List.mem_cons.mp hq with rfl | hq
    · exact ha
    · exact b2 q hq
  · show kx_up h.2.2.1 a j (some v) q.1 q.2.1 = _
    rcases List.mem_cons.mp hq with rfl | hq
    · rw [kx_up_at, if_pos rfl]
    · unfold kx_up
      by_cases e1 : q.1 = a
      · rw [if_pos e1, if_neg (fun z => hn q hq ⟨e1, z⟩)]; exact b4 q hq
      · rw [if_neg e1]; exact b4 q hq
theorem Bd.setI {a j : Nat} {v : Int32} (hB : Bd E R T L N h) (ha : a < N) (hL : ∀ q ∈ L, a < q ∨ q + 8 < a) : Bd (fun x y z => (x = a ∧ y = j ∧ z = v) ∨ (¬ (x = a ∧ y = j) ∧ E x y z)) R T L N (kx_setI h a j v) := by
  obtain ⟨b1, b2, b3, ⟨b6, b6z⟩, b7, b8⟩ := hB
  refine ⟨b1, b2, b3, ⟨fun x y => ?_, fun x y hx => Or.inr ⟨by omega, b6z x y hx⟩⟩, b7, fun q hq => ⟨(b8 q hq).1, (b8 q hq).2.eq (fun x y h1 h2 => ?_) (fun _ _ _ _ => rfl)⟩⟩
  · by_cases e : x = a ∧ y = j
    · exact Or.inl ⟨e.1, e.2, by show kx_up h.1 a j v x y = v; unfold kx_up; rw [if_pos e.1, if_pos e.2]⟩
    · refine Or.inr ⟨e, ?_⟩
      show E x y (kx_up h.1 a j v x y)
      unfold kx_up
      by_cases e1 : x = a
      · rw [if_pos e1, if_neg (fun z => e ⟨e1, z⟩)]; exact b6 x y
      · rw [if_neg e1]; exact b6 x y
  · show kx_up h.1 a j v x y = _
    rw [kx_up_ne (by have := hL q hq; omega)]
theorem Bd.mono {E' : Nat → Nat → Int32 → Prop} (hB : Bd E R T L N h) (hE : ∀ a j z, E a j z → E' a j z) : Bd E' R T L N h := ⟨hB.1, hB.2.1, hB.2.2.1, ⟨fun a j => hE a j _ (hB.2.2.2.1.1 a j), fun a j z => hE a j _ (hB.2.2.2.1.2 a j z)⟩, hB.2.2.2.2⟩
theorem Bd.rule {o : Nat} {h' : kx_Mem} (hB : Bd E R T L N h) (ho : o + 8 < N) (hL : ∀ q ∈ L, q + 8 < o) (hf : kx_Fc (fun b j => o ≤ b ∧ b ≤ o + 8) h h') (hr : RUc ru0 o h') : Bd (fun x y z => E x y z ∨ (o ≤ x ∧ x ≤ o + 8)) R T (o :: L) N h' := by
  obtain ⟨b1, b2, b3, ⟨b6, b6z⟩, b7, b8⟩ := hB
  refine ⟨by rw [hf.1]; exact b1, b2, b3.fc hf, ⟨fun x y => ?_, fun x y hx => Or.inl (b6z x y hx)⟩, fun x y => by rw [hf.1]; exact b7 x y, fun q hq => ?_⟩
  · by_cases e : o ≤ x ∧ x ≤ o + 8
    · exact Or.inr e
    · rw [hf.2 x y e]; exact Or.inl (b6 x y)
  · rcases List.mem_cons.mp hq with rfl | hq
    · exact ⟨ho, hr⟩
    · exact ⟨(b8 q hq).1, (b8 q hq).2.eq (fun x j h1 h2 => hf.2 x j (by have := hL q hq; omega)) (fun x j _ _ => by rw [hf.1])⟩
theorem nr_cons {o j a j' v : Nat} (h1 : ¬ (a = o ∧ j' = j)) (hR : ∀ q ∈ R, ¬ (q.1 = o ∧ q.2.1 = j)) : ∀ q ∈ (a, j', v) :: R, ¬ (q.1 = o ∧ q.2.1 = j) := fun q hq => by
  rcases List.mem_cons.mp hq with rfl | hq
  · exact h1
  · exact hR q hq
end BD
theorem wa_50 : Cond.arrayClass (kx_ak 50) ∈ kx_good := kx_in 133 rfl rfl
theorem wa_51 : Cond.arrayClass (kx_ak 51) ∈ kx_good := kx_in 134 rfl rfl
theorem wa_52 : Cond.arrayClass (kx_ak 52) ∈ kx_good := kx_in 72 rfl rfl
theorem wa_53 : Cond.arrayClass (kx_ak 53) ∈ kx_good := kx_in 199 rfl rfl
section KXB
variable {f : kx_F} {cells slots pc : Nat} {lv : List (Option Value)} {st : List Value} {h : kx_Mem} {E : Nat → Nat → Int32 → Prop} {R T : List (Nat × Nat × Nat)} {L : List Nat} {N N1 : Nat}
/-- newarray, putfield -/
theorem kx_fld {atype : ArrayType} {n : Int32} {kd N' o j ci idx : Nat} (hB : Bd E R T L N h) (h1 : N + 1 = N1) (hmo : (o, ci + 1, 0) ∈ T) (hnr : ∀ q ∈ R, ¬ (q.1 = o ∧ q.2.1 = j)) (hN : N < 1000000) (hkd : 50 ≤ kd ∧ kd < 54) (hty : newarray.typeOf atype = kx_ak kd) (hw : Cond.arrayClass (kx_ak kd) ∈ kx_good) (hn : ¬ n < 0) (hN' : n.toNatClampNeg = N') (hbytes : N' * componentBytes (kx_ak kd) ≤ 536870912) (hcells : cells + 1 ≤ f.2.2.2.2.1) (hslots : slots + N' ≤ f.2.2.2.2.2.1) (hd : decode f.2.2.1.2.1 pc = .ok (.newarray atype, 2))
    (hf : kx_FL f.2.2.1.1.cls idx ci j) (hwr : kx_wr f.2.2.1 ci j = true) (htr : (kx_ty ci j).isReference = true) (hdp : decode f.2.2.1.2.1 (pc + 2) = .ok (.putfield idx, 3)) (k : ∀ h', Bd E ((o, j, N) :: R) ((N, kd, N') :: T) L N1 h' → kx_X f (cells + 1) (slots + N') (pc + 5) lv st h') : kx_X f cells slots pc lv (.int n :: .ref o :: st) h := by
  subst h1
  have ho : o < N := hB.2.1.2 _ hmo
  have hko : h.2.2.2.1 o = (ci + 1, 0) := hB.2.2.1.2 _ hmo
  have eN := hB.1
  refine kx_newa hkd hty hw hn hN' hbytes (by rw [eN]; exact hN) hcells hslots hd ?_
  refine kx_putR (pc := pc + 2) (v := some h.2.2.2.2) hf ?_ (by omega) hwr htr hdp ?_
  · show ((if o = h.2.2.2.2 then (kd, N') else h.2.2.2.1 o) : Nat × Nat).1 = ci + 1
    rw [if_neg (by omega), hko]
  · refine k _ ?_
    rw [eN]
    exact hB.new.setR (by omega) hnr
/-- new -/
theorem kx_newB {ci index : Nat} {r : vw_C} (hB : Bd E R T L N h) (h1 : N + 1 = N1) (hc : kx_cl[ci]? = some r) (hw : Cond.classLink f.2.2.1.1.cls index r.1 ∈ kx_good) (hw2 : Cond.instantiable r.1 r.2.2 ∈ kx_good) (hw3 : Cond.initialized r.1 ∈ kx_good) (hN : N < 1000000) (hcells : cells + 1 ≤ f.2.2.2.2.1) (hslots : slots + r.2.2 ≤ f.2.2.2.2.2.1) (hd : decode f.2.2.1.2.1 pc = .ok (.new index, 3)) (k : ∀ h', Bd E R ((N, ci + 1, 0) :: T) L N1 h' → kx_X f (cells + 1) (slots + r.2.2) (pc + 3) lv (.ref N :: st) h') : kx_X f cells slots pc lv st h := by
  subst h1
  have eN := hB.1
  refine kx_newO hc hw hw2 hw3 (by rw [eN]; exact hN) hcells hslots hd ?_
  rw [eN]
  exact k _ hB.new
/-- putfield of a reference -/
theorem kx_putB {o j ci idx v : Nat} (hB : Bd E R T L N h) (hmo : (o, ci + 1, 0) ∈ T) (hnr : ∀ q ∈ R, ¬ (q.1 = o ∧ q.2.1 = j)) (hN : N ≤ 1000000) (hf : kx_FL f.2.2.1.1.cls idx ci j) (hwr : kx_wr f.2.2.1 ci j = true) (htr : (kx_ty ci j).isReference = true) (hdp : decode f.2.2.1.2.1 pc = .ok (.putfield idx, 3)) (k : ∀ h', Bd E ((o, j, v) :: R) T L N h' → kx_X f cells slots (pc + 3) lv st h') : kx_X f cells slots pc lv (.ref v :: .ref o :: st) h := by
  have ho : o < N := hB.2.1.2 _ hmo
  have hko : h.2.2.2.1 o = (ci + 1, 0) := hB.2.2.1.2 _ hmo
  exact kx_putR (v := some v) hf (by rw [hko]) (by omega) hwr htr hdp (k _ (hB.setR ho hnr))
end KXB
theorem oi_Ta : Cond.methodLink "TreatyClaims$Tape" 3 objectInit ∈ kx_good := kx_in 44 (by decide +kernel) rfl
theorem oi_Ra : Cond.methodLink "TreatyClaims$Rates" 3 objectInit ∈ kx_good := kx_in 205 (by decide +kernel) rfl
theorem oi_Th : Cond.methodLink "TreatyClaims$Things" 3 objectInit ∈ kx_good := kx_in 224 (by decide +kernel) rfl
theorem oi_Te : Cond.methodLink "TreatyClaims$TestCases" 3 objectInit ∈ kx_good := kx_in 296 (by decide +kernel) rfl
theorem oi_Fu : Cond.methodLink "TreatyClaims$Fund" 3 objectInit ∈ kx_good := kx_in 321 (by decide +kernel) rfl
theorem oi_Ru : Cond.methodLink "TreatyClaims$Rules" 3 objectInit ∈ kx_good := kx_in 84 (by decide +kernel) rfl
theorem oi_Re : Cond.methodLink "TreatyClaims$RulesReader" 3 objectInit ∈ kx_good := kx_in 78 (by decide +kernel) rfl
theorem oi_Pe : Cond.methodLink "TreatyClaims$People" 3 objectInit ∈ kx_good := kx_in 160 (by decide +kernel) rfl
theorem oi_Do : Cond.methodLink "TreatyClaims$Docket" 3 objectInit ∈ kx_good := kx_in 247 (by decide +kernel) rfl
theorem oi_Tc : Cond.methodLink "TreatyClaims" 1 objectInit ∈ kx_good := kx_in 36 (by decide +kernel) rfl
theorem oi_Mo : Cond.methodLink "TreatyClaimsModel" 270 objectInit ∈ kx_good := kx_in 1524 (by decide +kernel) rfl
theorem oi_AC : Cond.methodLink "java/util/AbstractCollection" 1 objectInit ∈ kx_good := kx_in 259 (by decide +kernel) rfl
theorem x_Ta_init {l : Launch} {g : kx_G} {d : Nat} {h : kx_Mem} (E : Nat → Nat → Int32 → Prop) (R T : List (Nat × Nat × Nat)) (L : List Nat) (N o : Nat) (hB : Bd E R T L N h) (hmo : (o, 10, 0) ∈ T) (hno : ∀ q ∈ R, q.1 ≠ o) (hN : N < 1000) : kx_Sp l g m_Ta_init [.ref o] h (d + 1) 1 600 (fun v h' => v = none ∧ Bd E ((o, 0, N) :: R) ((N, 52, 600) :: T) L (N + 1) h') := by
  refine kx_enter_e (lv := [_]) (by decide +kernel) (Nat.le_of_ble_eq_true rfl) rfl ?_
  refine kx_aload_n (pc := 0) (kx_dd d_Ta_init 0 rfl) rfl rfl ?_
  refine kx_objInit (pc := 1) oi_Ta oi_2 oi_3 (kx_dd d_Ta_init 1 rfl) (Nat.le_of_ble_eq_true rfl) (Nat.le_of_ble_eq_true rfl) ?_
  refine kx_aload_n (pc := 4) (kx_dd d_Ta_init 2 rfl) rfl rfl ?_
  refine kx_sipush (pc := 5) (v := 600) (kx_dd d_Ta_init 3 rfl) rfl ?_
  refine kx_fld (pc := 8) (N1 := N + 1) (kd := 52) (N' := 600) hB rfl (hmo) (fun q hq z => hno q hq z.1) (by omega) ⟨by decide, by decide⟩ rfl wa_52 (by decide) (by decide) (by decide) (Nat.le_of_ble_eq_true rfl) (Nat.le_of_ble_eq_true rfl) (kx_dd d_Ta_init 4 rfl) fl_Ta_11 rfl rfl (kx_dd d_Ta_init 5 rfl) (fun h hB => ?_)
  exact kx_vret (pc := 13) rfl (kx_dd d_Ta_init 6 rfl) (Nat.le_of_ble_eq_true rfl) (Nat.le_of_ble_eq_true rfl) ⟨rfl, hB⟩
theorem x_Ra_init {l : Launch} {g : kx_G} {d : Nat} {h : kx_Mem} (E : Nat → Nat → Int32 → Prop) (R T : List (Nat × Nat × Nat)) (L : List Nat) (N o : Nat) (hB : Bd E R T L N h) (hmo : (o, 7, 0) ∈ T) (hno : ∀ q ∈ R, q.1 ≠ o) (hN : N < 1000) : kx_Sp l g m_Ra_init [.ref o] h (d + 1) 3 180 (fun v h' => v = none ∧ Bd E ((o, 3, N + 2) :: (o, 2, N + 1) :: (o, 1, N) :: R) ((N + 2, 50, 60) :: (N + 1, 50, 60) :: (N, 50, 60) :: T) L (N + 3) h') := by
  refine kx_enter_e (lv := [_]) (by decide +kernel) (Nat.le_of_ble_eq_true rfl) rfl ?_
  refine kx_aload_n (pc := 0) (kx_dd d_Ra_init 0 rfl) rfl rfl ?_
  refine kx_objInit (pc := 1) oi_Ra oi_2 oi_3 (kx_dd d_Ra_init 1 rfl) (Nat.le_of_ble_eq_true rfl) (Nat.le_of_ble_eq_true rfl) ?_
  refine kx_aload_n (pc := 4) (kx_dd d_Ra_init 2 rfl) rfl rfl ?_
  refine kx_bipush (pc := 5) (v := 60) (kx_dd d_Ra_init 3 rfl) rfl ?_
  refine kx_fld (pc := 7) (N1 := N + 1) (kd := 50) (N' := 60) hB rfl (hmo) (fun q hq z => hno q hq z.1) (by omega) ⟨by decide, by decide⟩ rfl wa_50 (by decide) (by decide) (by decide) (Nat.le_of_ble_eq_true rfl) (Nat.le_of_ble_eq_true rfl) (kx_dd d_Ra_init 4 rfl) fl_Ra_11 rfl rfl (kx_dd d_Ra_init 5 rfl) (fun h hB => ?_)
  refine kx_aload_n (pc := 12) (kx_dd d_Ra_init 6 rfl) rfl rfl ?_
  refine kx_bipush (pc := 13) (v := 60) (kx_dd d_Ra_init 7 rfl) rfl ?_
  refine kx_fld (pc := 15) (N1 := N + 2) (kd := 50) (N' := 60) hB rfl (List.mem_cons_of_mem _ (hmo)) (nr_cons (by omega) (fun q hq z => hno q hq z.1)) (by omega) ⟨by decide, by decide⟩ rfl wa_50 (by decide) (by decide) (by decide) (Nat.le_of_ble_eq_true rfl) (Nat.le_of_ble_eq_true rfl) (kx_dd d_Ra_init 8 rfl) fl_Ra_15 rfl rfl (kx_dd d_Ra_init 9 rfl) (fun h hB => ?_)
  refine kx_aload_n (pc := 20) (kx_dd d_Ra_init 10 rfl) rfl rfl ?_
  refine kx_bipush (pc := 21) (v := 60) (kx_dd d_Ra_init 11 rfl) rfl ?_
  refine kx_fld (pc := 23) (N1 := N + 3) (kd := 50) (N' := 60) hB rfl (List.mem_cons_of_mem _ (List.mem_cons_of_mem _ (hmo))) (nr_cons (by omega) (nr_cons (by omega) (fun q hq z => hno q hq z.1))) (by omega) ⟨by decide, by decide⟩ rfl wa_50 (by decide) (by decide) (by decide) (Nat.le_of_ble_eq_true rfl) (Nat.le_of_ble_eq_true rfl) (kx_dd d_Ra_init 12 rfl) fl_Ra_18 rfl rfl (kx_dd d_Ra_init 13 rfl) (fun h hB => ?_)
  exact kx_vret (pc := 28) rfl (kx_dd d_Ra_init 14 rfl) (Nat.le_of_ble_eq_true rfl) (Nat.le_of_ble_eq_true rfl) ⟨rfl, hB⟩
theorem x_Th_init {l : Launch} {g : kx_G} {d : Nat} {h : kx_Mem} (E : Nat → Nat → Int32 → Prop) (R T : List (Nat × Nat × Nat)) (L : List Nat) (N o : Nat) (hB : Bd E R T L N h) (hmo : (o, 12, 0) ∈ T) (hno : ∀ q ∈ R, q.1 ≠ o) (hN : N < 1000) : kx_Sp l g m_Th_init [.ref o] h (d + 1) 4 120 (fun v h' => v = none ∧ Bd E ((o, 4, N + 3) :: (o, 3, N + 2) :: (o, 2, N + 1) :: (o, 1, N) :: R) ((N + 3, 50, 30) :: (N + 2, 50, 30) :: (N + 1, 50, 30) :: (N, 50, 30) :: T) L (N + 4) h') := by
  refine kx_enter_e (lv := [_]) (by decide +kernel) (Nat.le_of_ble_eq_true rfl) rfl ?_
  refine kx_aload_n (pc := 0) (kx_dd d_Th_init 0 rfl) rfl rfl ?_
  refine kx_objInit (pc := 1) oi_Th oi_2 oi_3 (kx_dd d_Th_init 1 rfl) (Nat.le_of_ble_eq_true rfl) (Nat.le_of_ble_eq_true rfl) ?_
  refine kx_aload_n (pc := 4) (kx_dd d_Th_init 2 rfl) rfl rfl ?_
  refine kx_bipush (pc := 5) (v := 30) (kx_dd d_Th_init 3 rfl) rfl ?_
  refine kx_fld (pc := 7) (N1 := N + 1) (kd := 50) (N' := 30) hB rfl (hmo) (fun q hq z => hno q hq z.1) (by omega) ⟨by decide, by decide⟩ rfl wa_50 (by decide) (by decide) (by decide) (Nat.le_of_ble_eq_true rfl) (Nat.le_of_ble_eq_true rfl) (kx_dd d_Th_init 4 rfl) fl_Th_11 rfl rfl (kx_dd d_Th_init 5 rfl) (fun h hB => ?_)
  refine kx_aload_n (pc := 12) (kx_dd d_Th_init 6 rfl) rfl rfl ?_
  refine kx_bipush (pc := 13) (v := 30) (kx_dd d_Th_init 7 rfl) rfl ?_
  refine kx_fld (pc := 15) (N1 := N + 2) (kd := 50) (N' := 30) hB rfl (List.mem_cons_of_mem _ (hmo)) (nr_cons (by omega) (fun q hq z => hno q hq z.1)) (by omega) ⟨by decide, by decide⟩ rfl wa_50 (by decide) (by decide) (by decide) (Nat.le_of_ble_eq_true rfl) (Nat.le_of_ble_eq_true rfl) (kx_dd d_Th_init 8 rfl) fl_Th_15 rfl rfl (kx_dd d_Th_init 9 rfl) (fun h hB => ?_)
  refine kx_aload_n (pc := 20) (kx_dd d_Th_init 10 rfl) rfl rfl ?_
  refine kx_bipush (pc := 21) (v := 30) (kx_dd d_Th_init 11 rfl) rfl ?_
  refine kx_fld (pc := 23) (N1 := N + 3) (kd := 50) (N' := 30) hB rfl (List.mem_cons_of_mem _ (List.mem_cons_of_mem _ (hmo))) (nr_cons (by omega) (nr_cons (by omega) (fun q hq z => hno q hq z.1))) (by omega) ⟨by decide, by decide⟩ rfl wa_50 (by decide) (by decide) (by decide) (Nat.le_of_ble_eq_true rfl) (Nat.le_of_ble_eq_true rfl) (kx_dd d_Th_init 12 rfl) fl_Th_18 rfl rfl (kx_dd d_Th_init 13 rfl) (fun h hB => ?_)
  refine kx_aload_n (pc := 28) (kx_dd d_Th_init 14 rfl) rfl rfl ?_
  refine kx_bipush (pc := 29) (v := 30) (kx_dd d_Th_init 15 rfl) rfl ?_
  refine kx_fld (pc := 31) (N1 := N + 4) (kd := 50) (N' := 30) hB rfl (List.mem_cons_of_mem _ (List.mem_cons_of_mem _ (List.mem_cons_of_mem _ (hmo)))) (nr_cons (by omega) (nr_cons (by omega) (nr_cons (by omega) (fun q hq z => hno q hq z.1)))) (by omega) ⟨by decide, by decide⟩ rfl wa_50 (by decide) (by decide) (by decide) (Nat.le_of_ble_eq_true rfl) (Nat.le_of_ble_eq_true rfl) (kx_dd d_Th_init 16 rfl) fl_Th_21 rfl rfl (kx_dd d_Th_init 17 rfl) (fun h hB => ?_)
  exact kx_vret (pc := 36) rfl (kx_dd d_Th_init 18 rfl) (Nat.le_of_ble_eq_true rfl) (Nat.le_of_ble_eq_true rfl) ⟨rfl, hB⟩
theorem x_Te_init {l : Launch} {g : kx_G} {d : Nat} {h : kx_Mem} (E : Nat → Nat → Int32 → Prop) (R T : List (Nat × Nat × Nat)) (L : List Nat) (N o : Nat) (hB : Bd E R T L N h) (hmo : (o, 11, 0) ∈ T) (hno : ∀ q ∈ R, q.1 ≠ o) (hN : N < 1000) : kx_Sp l g m_Te_init [.ref o] h (d + 1) 2 63 (fun v h' => v = none ∧ Bd E ((o, 1, N + 1) :: (o, 0, N) :: R) ((N + 1, 50, 3) :: (N, 51, 60) :: T) L (N + 2) h') := by
  refine kx_enter_e (lv := [_]) (by decide +kernel) (Nat.le_of_ble_eq_true rfl) rfl ?_
  refine kx_aload_n (pc := 0) (kx_dd d_Te_init 0 rfl) rfl rfl ?_
  refine kx_objInit (pc := 1) oi_Te oi_2 oi_3 (kx_dd d_Te_init 1 rfl) (Nat.le_of_ble_eq_true rfl) (Nat.le_of_ble_eq_true rfl) ?_
  refine kx_aload_n (pc := 4) (kx_dd d_Te_init 2 rfl) rfl rfl ?_
  refine kx_bipush (pc := 5) (v := 60) (kx_dd d_Te_init 3 rfl) rfl ?_
  refine kx_fld (pc := 7) (N1 := N + 1) (kd := 51) (N' := 60) hB rfl (hmo) (fun q hq z => hno q hq z.1) (by omega) ⟨by decide, by decide⟩ rfl wa_51 (by decide) (by decide) (by decide) (Nat.le_of_ble_eq_true rfl) (Nat.le_of_ble_eq_true rfl) (kx_dd d_Te_init 4 rfl) fl_Te_11 rfl rfl (kx_dd d_Te_init 5 rfl) (fun h hB => ?_)
  refine kx_aload_n (pc := 12) (kx_dd d_Te_init 6 rfl) rfl rfl ?_
  refine kx_iconst (pc := 13) (v := 3) (kx_dd d_Te_init 7 rfl) rfl ?_
  refine kx_fld (pc := 14) (N1 := N + 2) (kd := 50) (N' := 3) hB rfl (List.mem_cons_of_mem _ (hmo)) (nr_cons (by omega) (fun q hq z => hno q hq z.1)) (by omega) ⟨by decide, by decide⟩ rfl wa_50 (by decide) (by decide) (by decide) (Nat.le_of_ble_eq_true rfl) (Nat.le_of_ble_eq_true rfl) (kx_dd d_Te_init 8 rfl) fl_Te_17 rfl rfl (kx_dd d_Te_init 9 rfl) (fun h hB => ?_)
  exact kx_vret (pc := 19) rfl (kx_dd d_Te_init 10 rfl) (Nat.le_of_ble_eq_true rfl) (Nat.le_of_ble_eq_true rfl) ⟨rfl, hB⟩
theorem x_Fu_init {l : Launch} {g : kx_G} {d : Nat} {h : kx_Mem} (E : Nat → Nat → Int32 → Prop) (R T : List (Nat × Nat × Nat)) (L : List Nat) (N o : Nat) (hB : Bd E R T L N h) (hmo : (o, 4, 0) ∈ T) (hno : ∀ q ∈ R, q.1 ≠ o) (hN : N < 1000) (p1 p2 : Nat) : kx_Sp l g m_Fu_init [.ref o, .ref p1, .ref p2] h (d + 1) 2 120 (fun v h' => v = none ∧ Bd E ((o, 1, p2) :: (o, 0, p1) :: (o, 5, N + 1) :: (o, 4, N) :: R) ((N + 1, 51, 60) :: (N, 51, 60) :: T) L (N + 2) h') := by
  refine kx_enter_e (lv := [_, _, _]) (by decide +kernel) (Nat.le_of_ble_eq_true rfl) rfl ?_
  refine kx_aload_n (pc := 0) (kx_dd d_Fu_init 0 rfl) rfl rfl ?_
  refine kx_objInit (pc := 1) oi_Fu oi_2 oi_3 (kx_dd d_Fu_init 1 rfl) (Nat.le_of_ble_eq_true rfl) (Nat.le_of_ble_eq_true rfl) ?_
  refine kx_aload_n (pc := 4) (kx_dd d_Fu_init 2 rfl) rfl rfl ?_
  refine kx_bipush (pc := 5) (v := 60) (kx_dd d_Fu_init 3 rfl) rfl ?_
  refine kx_fld (pc := 7) (N1 := N + 1) (kd := 51) (N' := 60) hB rfl (hmo) (fun q hq z => hno q hq z.1) (by omega) ⟨by decide, by decide⟩ rfl wa_51 (by decide) (by decide) (by decide) (Nat.le_of_ble_eq_true rfl) (Nat.le_of_ble_eq_true rfl) (kx_dd d_Fu_init 4 rfl) fl_Fu_11 rfl rfl (kx_dd d_Fu_init 5 rfl) (fun h hB => ?_)
  refine kx_aload_n (pc := 12) (kx_dd d_Fu_init 6 rfl) rfl rfl ?_
  refine kx_bipush (pc := 13) (v := 60) (kx_dd d_Fu_init 7 rfl) rfl ?_
  refine kx_fld (pc := 15) (N1 := N + 2) (kd := 51) (N' := 60) hB rfl (List.mem_cons_of_mem _ (hmo)) (nr_cons (by omega) (fun q hq z => hno q hq z.1)) (by omega) ⟨by decide, by decide⟩ rfl wa_51 (by decide) (by decide) (by decide) (Nat.le_of_ble_eq_true rfl) (Nat.le_of_ble_eq_true rfl) (kx_dd d_Fu_init 8 rfl) fl_Fu_17 rfl rfl (kx_dd d_Fu_init 9 rfl) (fun h hB => ?_)
  refine kx_aload_n (pc := 20) (kx_dd d_Fu_init 10 rfl) rfl rfl ?_
  refine kx_aload_n (pc := 21) (kx_dd d_Fu_init 11 rfl) rfl rfl ?_
  refine kx_putB (pc := 22) (v := p1) hB (List.mem_cons_of_mem _ (List.mem_cons_of_mem _ (hmo))) (nr_cons (by omega) (nr_cons (by omega) (fun q hq z => hno q hq z.1))) (by omega) fl_Fu_20 rfl rfl (kx_dd d_Fu_init 12 rfl) (fun h hB => ?_)
  refine kx_aload_n (pc := 25) (kx_dd d_Fu_init 13 rfl) rfl rfl ?_
  refine kx_aload_n (pc := 26) (kx_dd d_Fu_init 14 rfl) rfl rfl ?_
  refine kx_putB (pc := 27) (v := p2) hB (List.mem_cons_of_mem _ (List.mem_cons_of_mem _ (hmo))) (nr_cons (by omega) (nr_cons (by omega) (nr_cons (by omega) (fun q hq z => hno q hq z.1)))) (by omega) fl_Fu_24 rfl rfl (kx_dd d_Fu_init 15 rfl) (fun h hB => ?_)
  exact kx_vret (pc := 30) rfl (kx_dd d_Fu_init 16 rfl) (Nat.le_of_ble_eq_true rfl) (Nat.le_of_ble_eq_true rfl) ⟨rfl, hB⟩
theorem x_Ru_init {l : Launch} {g : kx_G} {d : Nat} {h : kx_Mem} (E : Nat → Nat → Int32 → Prop) (R T : List (Nat × Nat × Nat)) (L : List Nat) (o : Nat) (hB : Bd E R T L (o + 1) h) (hmo : (o, 8, 0) ∈ T) (hno : ∀ q ∈ R, q.1 ≠ o) (hN : o < 100) (hL : ∀ q ∈ L, q + 8 < o) : kx_Sp l g m_Ru_init [.ref o] h (d + 1) 8 107 (fun v h' => v = none ∧ Bd (fun x y z => E x y z ∨ (o ≤ x ∧ x ≤ o + 8)) ((o, 11, o + 8) :: (o, 10, o + 7) :: (o, 7, o + 6) :: (o, 6, o + 5) :: (o, 4, o + 4) :: (o, 3, o + 3) :: (o, 1, o + 2) :: (o, 0, o + 1) :: R) ((o + 8, 50, 20) :: (o + 7, 51, 20) :: (o + 6, 50, 10) :: (o + 5, 51, 10) :: (o + 4, 50, 16) :: (o + 3, 51, 16) :: (o + 2, 50, 4) :: (o + 1, 50, 11) :: T) (o :: L) (o + 9) h') := by
  refine kx_enter_e (lv := [_]) (by decide +kernel) (Nat.le_of_ble_eq_true rfl) rfl ?_
  refine kx_aload_n (pc := 0) (kx_dd d_Ru_init 0 rfl) rfl rfl ?_
  refine kx_objInit (pc := 1) oi_Ru oi_2 oi_3 (kx_dd d_Ru_init 1 rfl) (Nat.le_of_ble_eq_true rfl) (Nat.le_of_ble_eq_true rfl) ?_
  refine kx_aload_n (pc := 4) (kx_dd d_Ru_init 2 rfl) rfl rfl ?_
  refine kx_bipush (pc := 5) (v := 11) (kx_dd d_Ru_init 3 rfl) rfl ?_
  refine kx_fld (pc := 7) (N1 := o + 2) (kd := 50) (N' := 11) hB rfl (hmo) (fun q hq z => hno q hq z.1) (by omega) ⟨by decide, by decide⟩ rfl wa_50 (by decide) (by decide) (by decide) (Nat.le_of_ble_eq_true rfl) (Nat.le_of_ble_eq_true rfl) (kx_dd d_Ru_init 4 rfl) fl_Ru_11 rfl rfl (kx_dd d_Ru_init 5 rfl) (fun h hB => ?_)
  refine kx_aload_n (pc := 12) (kx_dd d_Ru_init 6 rfl) rfl rfl ?_
  refine kx_iconst (pc := 13) (v := 4) (kx_dd d_Ru_init 7 rfl) rfl ?_
  refine kx_fld (pc := 14) (N1 := o + 3) (kd := 50) (N' := 4) hB rfl (List.mem_cons_of_mem _ (hmo)) (nr_cons (by omega) (fun q hq z => hno q hq z.1)) (by omega) ⟨by decide, by decide⟩ rfl wa_50 (by decide) (by decide) (by decide) (Nat.le_of_ble_eq_true rfl) (Nat.le_of_ble_eq_true rfl) (kx_dd d_Ru_init 8 rfl) fl_Ru_15 rfl rfl (kx_dd d_Ru_init 9 rfl) (fun h hB => ?_)
  refine kx_aload_n (pc := 19) (kx_dd d_Ru_init 10 rfl) rfl rfl ?_
  refine kx_bipush (pc := 20) (v := 16) (kx_dd d_Ru_init 11 rfl) rfl ?_
  refine kx_fld (pc := 22) (N1 := o + 4) (kd := 51) (N' := 16) hB rfl (List.mem_cons_of_mem _ (List.mem_cons_of_mem _ (hmo))) (nr_cons (by omega) (nr_cons (by omega) (fun q hq z => hno q hq z.1))) (by omega) ⟨by decide, by decide⟩ rfl wa_51 (by decide) (by decide) (by decide) (Nat.le_of_ble_eq_true rfl) (Nat.le_of_ble_eq_true rfl) (kx_dd d_Ru_init 12 rfl) fl_Ru_18 rfl rfl (kx_dd d_Ru_init 13 rfl) (fun h hB => ?_)
  refine kx_aload_n (pc := 27) (kx_dd d_Ru_init 14 rfl) rfl rfl ?_
  refine kx_bipush (pc := 28) (v := 16) (kx_dd d_Ru_init 15 rfl) rfl ?_
  refine kx_fld (pc := 30) (N1 := o + 5) (kd := 50) (N' := 16) hB rfl (List.mem_cons_of_mem _ (List.mem_cons_of_mem _ (List.mem_cons_of_mem _ (hmo)))) (nr_cons (by omega) (nr_cons (by omega) (nr_cons (by omega) (fun q hq z => hno q hq z.1)))) (by omega) ⟨by decide, by decide⟩ rfl wa_50 (by decide) (by decide) (by decide) (Nat.le_of_ble_eq_true rfl) (Nat.le_of_ble_eq_true rfl) (kx_dd d_Ru_init 16 rfl) fl_Ru_22 rfl rfl (kx_dd d_Ru_init 17 rfl) (fun h hB => ?_)
  refine kx_aload_n (pc := 35) (kx_dd d_Ru_init 18 rfl) rfl rfl ?_
  refine kx_bipush (pc := 36) (v := 10) (kx_dd d_Ru_init 19 rfl) rfl ?_
  refine kx_fld (pc := 38) (N1 := o + 6) (kd := 51) (N' := 10) hB rfl (List.mem_cons_of_mem _ (List.mem_cons_of_mem _ (List.mem_cons_of_mem _ (List.mem_cons_of_mem _ (hmo))))) (nr_cons (by omega) (nr_cons (by omega) (nr_cons (by omega) (nr_cons (by omega) (fun q hq z => hno q hq z.1))))) (by omega) ⟨by decide, by decide⟩ rfl wa_51 (by decide) (by decide) (by decide) (Nat.le_of_ble_eq_true rfl) (Nat.le_of_ble_eq_true rfl) (kx_dd d_Ru_init 20 rfl) fl_Ru_25 rfl rfl (kx_dd d_Ru_init 21 rfl) (fun h hB => ?_)
  refine kx_aload_n (pc := 43) (kx_dd d_Ru_init 22 rfl) rfl rfl ?_
  refine kx_bipush (pc := 44) (v := 10) (kx_dd d_Ru_init 23 rfl) rfl ?_
  refine kx_fld (pc := 46) (N1 := o + 7) (kd := 50) (N' := 10) hB rfl (List.mem_cons_of_mem _ (List.mem_cons_of_mem _ (List.mem_cons_of_mem _ (List.mem_cons_of_mem _ (List.mem_cons_of_mem _ (hmo)))))) (nr_cons (by omega) (nr_cons (by omega) (nr_cons (by omega) (nr_cons (by omega) (nr_cons (by omega) (fun q hq z => hno q hq z.1)))))) (by omega) ⟨by decide, by decide⟩ rfl wa_50 (by decide) (by decide) (by decide) (Nat.le_of_ble_eq_true rfl) (Nat.le_of_ble_eq_true rfl) (kx_dd d_Ru_init 24 rfl) fl_Ru_28 rfl rfl (kx_dd d_Ru_init 25 rfl) (fun h hB => ?_)
  refine kx_aload_n (pc := 51) (kx_dd d_Ru_init 26 rfl) rfl rfl ?_
  refine kx_bipush (pc := 52) (v := 20) (kx_dd d_Ru_init 27 rfl) rfl ?_
  refine kx_fld (pc := 54) (N1 := o + 8) (kd := 51) (N' := 20) hB rfl (List.mem_cons_of_mem _ (List.mem_cons_of_mem _ (List.mem_cons_of_mem _ (List.mem_cons_of_mem _ (List.mem_cons_of_mem _ (List.mem_cons_of_mem _ (hmo))))))) (nr_cons (by omega) (nr_cons (by omega) (nr_cons (by omega) (nr_cons (by omega) (nr_cons (by omega) (nr_cons (by omega) (fun q hq z => hno q hq z.1))))))) (by omega) ⟨by decide, by decide⟩ rfl wa_51 (by decide) (by decide) (by decide) (Nat.le_of_ble_eq_true rfl) (Nat.le_of_ble_eq_true rfl) (kx_dd d_Ru_init 28 rfl) fl_Ru_31 rfl rfl (kx_dd d_Ru_init 29 rfl) (fun h hB => ?_)
  refine kx_aload_n (pc := 59) (kx_dd d_Ru_init 30 rfl) rfl rfl ?_
  refine kx_bipush (pc := 60) (v := 20) (kx_dd d_Ru_init 31 rfl) rfl ?_
  refine kx_fld (pc := 62) (N1 := o + 9) (kd := 50) (N' := 20) hB rfl (List.mem_cons_of_mem _ (List.mem_cons_of_mem _ (List.mem_cons_of_mem _ (List.mem_cons_of_mem _ (List.mem_cons_of_mem _ (List.mem_cons_of_mem _ (List.mem_cons_of_mem _ (hmo)))))))) (nr_cons (by omega) (nr_cons (by omega) (nr_cons (by omega) (nr_cons (by omega) (nr_cons (by omega) (nr_cons (by omega) (nr_cons (by omega) (fun q hq z => hno q hq z.1)))))))) (by omega) ⟨by decide, by decide⟩ rfl wa_50 (by decide) (by decide) (by decide) (Nat.le_of_ble_eq_true rfl) (Nat.le_of_ble_eq_true rfl) (kx_dd d_Ru_init 32 rfl) fl_Ru_34 rfl rfl (kx_dd d_Ru_init 33 rfl) (fun h hB => ?_)
  refine kx_aload_n (pc := 67) (kx_dd d_Ru_init 34 rfl) rfl rfl ?_
  have hr : IsRu h o := ⟨hB.2.2.1.2 (o, 8, 0) (by simp [hmo]), hB.2.2.1.2 (o + 1, 50, 11) (by simp), hB.2.2.1.2 (o + 2, 50, 4) (by simp), hB.2.2.1.2 (o + 3, 51, 16) (by simp), hB.2.2.1.2 (o + 4, 50, 16) (by simp), hB.2.2.1.2 (o + 5, 51, 10) (by simp), hB.2.2.1.2 (o + 6, 50, 10) (by simp), hB.2.2.1.2 (o + 7, 51, 20) (by simp), hB.2.2.1.2 (o + 8, 50, 20) (by simp), hB.2.2.1.1 (o, 0, o + 1) (by simp), hB.2.2.1.1 (o, 1, o + 2) (by simp), hB.2.2.1.1 (o, 3, o + 3) (by simp), hB.2.2.1.1 (o, 4, o + 4) (by simp), hB.2.2.1.1 (o, 6, o + 5) (by simp), hB.2.2.1.1 (o, 7, o + 6) (by simp), hB.2.2.1.1 (o, 10, o + 7) (by simp), hB.2.2.1.1 (o, 11, o + 8) (by simp), by omega⟩
  refine kx_invV (pc := 68) (a := o) (as := []) (kx_dd d_Ru_init 35 rfl) ⟨lk_Ru_37, wi_Ru_reset, we_Ru_reset⟩ w_Ru_reset (congrArg Prod.fst hr.1) rfl rfl rfl rfl (Nat.le_of_ble_eq_true rfl) (x_Ru_reset (d := d) o hr) (Nat.le_refl _) ⟨Nat.le_of_ble_eq_true rfl, Nat.le_of_ble_eq_true rfl⟩ (fun v h' hq => ?_)
  obtain ⟨rfl, hru, hfu⟩ := hq
  exact kx_vret (pc := 71) rfl (kx_dd d_Ru_init 36 rfl) (Nat.le_of_ble_eq_true rfl) (Nat.le_of_ble_eq_true rfl) ⟨rfl, hB.rule (by omega) hL hfu hru⟩
