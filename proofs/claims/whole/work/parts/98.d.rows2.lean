/-! rows for the lists: arrays of objects, class objects, the empty row -/
theorem kl_D0 : Cond.fieldLink "java/util/ArrayList" 39 "java/util/ArrayList" "DEFAULTCAPACITY_EMPTY_ELEMENTDATA" "[Ljava/lang/Object;" ∈ kx_good ∧ Cond.laysStatic "java/util/ArrayList" "DEFAULTCAPACITY_EMPTY_ELEMENTDATA" "[Ljava/lang/Object;" ∈ lw_tbl ∧ Cond.initialized "java/util/ArrayList" ∈ lw_tbl := ⟨kx_in 260 (by decide +kernel) rfl, List.mem_append_right _ (List.mem_of_getElem? (i := 261) (by decide +kernel)), List.mem_append_right _ (List.mem_of_getElem? (i := 11) (by decide +kernel))⟩
theorem kl_AO : Cond.arrayOver (.object "java/lang/Object") ∈ lw_tbl := List.mem_append_right _ (List.mem_of_getElem? (i := 956) (by decide +kernel))
theorem kl_DC : Cond.declares ⟨"java/lang/Object", "getClass", "()Ljava/lang/Class;"⟩ ∈ lw_tbl := List.mem_append_right _ (List.mem_of_getElem? (i := 2220) (by decide +kernel))
theorem kl_gc : Cond.methodLink "java/util/Arrays" 86 ⟨"java/lang/Object", "getClass", "()Ljava/lang/Class;"⟩ ∈ kx_good ∧ Cond.instanceMethod ⟨"java/lang/Object", "getClass", "()Ljava/lang/Class;"⟩ ∈ kx_good ∧ Cond.native ⟨"java/lang/Object", "getClass", "()Ljava/lang/Class;"⟩ ∈ kx_good ∧ Cond.selects "[Ljava/lang/Object;" ⟨"java/lang/Object", "getClass", "()Ljava/lang/Class;"⟩ ⟨"java/lang/Object", "getClass", "()Ljava/lang/Class;"⟩ ∈ kx_good := ⟨kx_in 933 (by decide +kernel) rfl, kx_in 934 (by decide +kernel) rfl, kx_in 951 (by decide +kernel) rfl, kx_in 2219 (by decide +kernel) rfl⟩
theorem kl_lm : Cond.classLink "java/util/Arrays" 110 "[Ljava/lang/Object;" ∈ kx_good ∧ Cond.classLink "java/util/Arrays" 2 "java/lang/Object" ∈ kx_good ∧ Cond.classLink "java/util/ArrayList" 7 "java/lang/Object" ∈ kx_good := ⟨kx_in 955 (by decide +kernel) rfl, kx_in 957 (by decide +kernel) rfl, kx_in 963 (by decide +kernel) rfl⟩
theorem kl_ac : Cond.methodLink "java/util/Arrays" 150 arraycopyName ∈ kx_good ∧ Cond.static arraycopyName ∈ kx_good ∧ Cond.native arraycopyName ∈ kx_good ∧ Cond.initialized "java/lang/System" ∈ kx_good := ⟨kx_in 959 (by decide +kernel) rfl, kx_in 960 (by decide +kernel) rfl, kx_in 961 (by decide +kernel) rfl, kx_in 27 (by decide +kernel) rfl⟩
theorem kx_AO {g : kx_G} {U : State} (hE : kx_E g U) : va_AO "java/lang/Object" U := by
  obtain ⟨s0, b, e1, e2, hW, hn, hg, ho, -⟩ := hE
  exact (va_AO.of (hg _ kl_AO)).moved hW.alike
theorem kx_DC {g : kx_G} {U : State} (hE : kx_E g U) : va_Dc U := by
  obtain ⟨s0, b, e1, e2, hW, hn, hg, ho, -⟩ := hE
  exact (va_Dc.of (hg _ kl_DC)).moved hW.alike
theorem kx_Mi {g : kx_G} {U : State} (hE : kx_E g U) : va_Mi "[Ljava/lang/Object;" (kx_ad g 1000202) U := by
  obtain ⟨s0, b, e1, e2, hW, hn, hg, -, ho⟩ := hE
  have h45 := kx_narrow hn 45 (c := .isRef (.mirror "[Ljava/lang/Object;")) (by decide +kernel)
  obtain ⟨mi, c, k, h1, h2, h3⟩ := va_Mi.of h45
  have he : (Term.mirror "[Ljava/lang/Object;").eval #[Value.ref b] s0 none [] s0 = some (.ref mi) := by simp [Term.eval, h1, h2, h3]
  have e4 : mi = g.2.2.2.1 1000202 := by
    rcases ho (Jvm.Term.mirror "[Ljava/lang/Object;", 1000202) (List.mem_of_getElem? (i := 3) rfl) with hv | hv
    · have := he.symm.trans hv
      injection this with this
      cases this
    · have := he.symm.trans hv
      injection this with this
      injection this
  rw [kx_adS g 202, ← e4]
  exact va_Mi.moved hW.alike ⟨c, k, h1, h2, h3⟩
theorem kx_Z0 {g : kx_G} {U : State} {h : kx_Mem} {H : Heap} (hE : kx_E g U) (hR : kx_Rel g h H) : va_Z "java/util/ArrayList" "DEFAULTCAPACITY_EMPTY_ELEMENTDATA" "[Ljava/lang/Object;" (.ref (kx_ad g 1000201)) (kx_A g) U H := by
  refine kx_Zof hE hR kl_D0.2.1 kl_D0.2.2 (fun s0 b hn ho => ?_)
  rw [kx_adS g 201]
  exact ho (Jvm.Term.static "java/util/ArrayList" "DEFAULTCAPACITY_EMPTY_ELEMENTDATA" "[Ljava/lang/Object;", 1000201) (List.mem_of_getElem? (i := 60) rfl)
theorem kx_E0 {g : kx_G} {U : State} {h : kx_Mem} {H : Heap} (hE : kx_E g U) (hR : kx_Rel g h H) : va_T (.object "java/lang/Object") (kx_ad g 1000201) 0 (fun _ => .null) (kx_A g) U H := by
  obtain ⟨s0, b, e1, e2, hW, hn, hg, ho, -⟩ := hE
  have hA : ∀ a : Nat, a < s0.heap.size → ¬ kx_A g a := fun a ha z => by
    have : g.2.2.1 ≤ a := z
    omega
  obtain ⟨t, ht, hT⟩ := va_Tof (N := 0) (f := fun _ => .null) (A := kx_A g) (by decide) (kx_narrow hn 5 (c := .arrayOf (Jvm.Term.static "java/util/ArrayList" "DEFAULTCAPACITY_EMPTY_ELEMENTDATA" "[Ljava/lang/Object;") (.object "java/lang/Object")) (by decide +kernel)) (va_eqt (kx_narrow hn 7 (c := .eq (.length (Jvm.Term.static "java/util/ArrayList" "DEFAULTCAPACITY_EMPTY_ELEMENTDATA" "[Ljava/lang/Object;")) (.int 0)) (by decide +kernel))) (fun j hj => absurd hj (Nat.not_lt_zero j)) hA
  have et : t = g.2.2.2.1 1000201 := by
    have := ht.symm.trans (ho (Jvm.Term.static "java/util/ArrayList" "DEFAULTCAPACITY_EMPTY_ELEMENTDATA" "[Ljava/lang/Object;", 1000201) (List.mem_of_getElem? (i := 60) rfl))
    injection this with this
    injection this
  rw [kx_adS g 201, ← et]
  exact (hT.moved hW.alike).kept (fun a ha _ => by rw [e1]; exact hR.2.2.1.2 a (by omega))
/-- references of one row to another, from the start -/
def kx_cpR (h : kx_Mem) (a0 a n : Nat) : kx_Mem := (h.1, h.2.1, fun b j => if b = a then (if j < n then h.2.2.1 a0 j else h.2.2.1 a j) else h.2.2.1 b j, h.2.2.2)
section KXR
variable {f : kx_F} {cells slots pc : Nat} {lv : List (Option Value)} {st : List Value} {h : kx_Mem}
theorem kx_get0 (hcl : f.2.2.1.1.cls = "java/util/ArrayList") (hd : decode f.2.2.1.2.1 pc = .ok (.getstatic 39, 3)) (kk : kx_X f cells slots (pc + 3) lv (.ref 1000201 :: st) h) : kx_X f cells slots pc lv st h := kx_getZ (v := .ref 1000201) (by rw [hcl]; exact kl_D0.1) (fun U H hE hR => kx_Z0 hE hR) hd kk
theorem kx_alen0 (hd : decode f.2.2.1.2.1 pc = .ok (.arraylength, 1)) (kk : kx_X f cells slots (pc + 1) lv (.int 0 :: st) h) : kx_X f cells slots pc lv (.ref 1000201 :: st) h := by
  intro p e s m args below meth c C H locs ls hR hL hlv
  obtain ⟨hx, hb, -, -, hcl, hts, -, -, hK⟩ := id C
  obtain ⟨cell, h1, h2, h3, h4, h5, h6, h7⟩ := kx_E0 hK.2.2.2 hR
  exact W.alen hx hb h1 h2 h5 rfl rfl hd (kk p e s m args below meth c C H locs ls hR hL hlv)
theorem kx_acmp_eqT {x tgt : Nat} {off : Int} (hd : decode f.2.2.1.2.1 pc = .ok (.if_acmp .eq off, 3)) (ht : (pc : Int) + off = (tgt : Int)) (kt : kx_X f cells slots tgt lv st h) : kx_X f cells slots pc lv (.ref x :: .ref x :: st) h := by
  intro p e s m args below meth c C H locs ls hR hL hl
  exact lv_acmp_eq (rx := some (kx_ad f.2.1 x)) (ry := some (kx_ad f.2.1 x)) C.1 C.2.1 hd ht (fun q => kt p e s m args below meth c C H locs ls hR hL hl) (fun q => absurd rfl q)
theorem kx_acmp_neF {x tgt : Nat} {off : Int} (hd : decode f.2.2.1.2.1 pc = .ok (.if_acmp .ne off, 3)) (ht : (pc : Int) + off = (tgt : Int)) (kf : kx_X f cells slots (pc + 3) lv st h) : kx_X f cells slots pc lv (.ref x :: .ref x :: st) h := by
  intro p e s m args below meth c C H locs ls hR hL hl
  exact lv_acmp_ne (rx := some (kx_ad f.2.1 x)) (ry := some (kx_ad f.2.1 x)) C.1 C.2.1 hd ht (fun q => absurd rfl q) (fun q => kf p e s m args below meth c C H locs ls hR hL hl)
theorem kx_ldM (hcl : f.2.2.1.1.cls = "java/util/Arrays") (hd : decode f.2.2.1.2.1 pc = .ok (.ldc 110, 2)) (kk : kx_X f cells slots (pc + 2) lv (.ref 1000202 :: st) h) : kx_X f cells slots pc lv st h := by
  intro p e s m args below meth c C H locs ls hR hL hlv
  obtain ⟨hx, hb, -, -, hown, hts, -, -, hK⟩ := id C
  rw [hcl] at hown
  exact va_ldcM hx hb hown (hts _ kl_lm.1) (kx_Mi hK.2.2.2) hd (kk p e s m args below meth c C H locs ls hR hL hlv)
theorem kx_getCl {a : Nat} (hcl : f.2.2.1.1.cls = "java/util/Arrays") (hk : (h.2.2.2.1 a).1 = 54) (hdd : 1 ≤ f.2.2.2.1) (hcat : (st.map fun v => v.category).sum ≤ 8) (hd : decode f.2.2.1.2.1 pc = .ok (.invokevirtual 86, 3)) (kk : kx_X f cells slots (pc + 3) lv (.ref 1000202 :: st) h) : kx_X f cells slots pc lv (.ref a :: st) h := by
  intro p e s m args below meth c C H locs ls hR hL hlv
  obtain ⟨hx, hb, -, hml, hown, hts, -, -, hK⟩ := id C
  rw [hcl] at hown
  have hcat' : ((st.map (kx_cv f.2.1)).map fun v => v.category).sum ≤ 8 := by rw [List.map_map]; simpa [Function.comp_def, kx_cv_cat] using hcat
  have hra := (hK.2.1 54 (by decide) (by decide)).2
  refine va_getC hx hb (by rw [hml]; exact hlv.1.symm) hown (hts _ kl_gc.1) (va_Dc.use (kx_DC hK.2.2.2)) (hts _ kl_gc.2.2.2) (hts _ kl_gc.2.1) (hts _ kl_gc.2.2.1) (kx_Mi hK.2.2.2) ⟨_, kx_at.arr hR hk (by decide), rfl, va_nmO hra (by decide +kernel)⟩ hdd ?_ hd (kk p e s m args below meth c C H locs ls hR hL hlv)
  show _ ≤ 32 * f.2.2.2.1
  omega
theorem kx_newR {index : Nat} {n : Int32} {N' : Nat} (hlk : Cond.classLink f.2.2.1.1.cls index "java/lang/Object" ∈ kx_good) (hn : ¬ n < 0) (hN' : n.toNatClampNeg = N') (hbytes : N' * 4 ≤ 536870912) (hN : h.2.2.2.2 < 1000000) (hcells : cells + 1 ≤ f.2.2.2.2.1) (hslots : slots + N' ≤ f.2.2.2.2.2.1) (hd : decode f.2.2.1.2.1 pc = .ok (.anewarray index, 3))
    (k : kx_X f (cells + 1) (slots + N') (pc + 3) lv (.ref h.2.2.2.2 :: st) (kx_new h 54 N')) : kx_X f cells slots pc lv (.int n :: st) h := by
  intro p e s m args below meth c C H locs ls hR hL hl
  obtain ⟨hx, hb, -, -, hown, hts, -, hnm, hK⟩ := id C
  subst hN'
  refine W.anew hx hb hown (hts _ hlk) (va_AO.use (kx_AO hK.2.2.2)) rfl hd rfl hn hbytes hcells hslots fun cA kA comp g1 g2 g3 g4 => ?_
  have had : kx_ad f.2.1 h.2.2.2.2 = H.size := by unfold kx_ad; rw [if_pos hN, hR.1]
  obtain ⟨-, -, -, -, -, q5⟩ : va_RA s (f.2.1.2.1 54) (.object "java/lang/Object") := (hK.2.1 54 (by decide) (by decide)).2
  have hcA : cA = f.2.1.2.1 54 := Option.some.inj (g1.symm.trans q5)
  subst hcA
  have e1 : (H.push { cls := f.2.1.2.1 54, slots := Array.replicate n.toNatClampNeg .null, vm := .none })[H.size]? = some (arrV (f.2.1.2.1 54) n.toNatClampNeg (fun j => kx_cv f.2.1 (kx_mv (kx_new h 54 n.toNatClampNeg) (kx_ak 54) h.2.2.2.2 j))) := by
    rw [Array.getElem?_push_size]
    congr 1
    rw [show (fun j => kx_cv f.2.1 (kx_mv (kx_new h 54 n.toNatClampNeg) (kx_ak 54) h.2.2.2.2 j)) = fun _ => Value.null from funext fun j => kx_mv_new0 f.2.1 (by decide)]
    unfold arrV
    simp
    exact Array.ext (by simp) (fun i h1 h2 => by simp)
  have hrel : kx_Rel f.2.1 (kx_new h 54 n.toNatClampNeg) (H.push { cls := f.2.1.2.1 54, slots := Array.replicate n.toNatClampNeg .null, vm := .none }) := by
    refine hR.new hN (by rw [Array.size_push]) (fun q hq => by rw [Array.getElem?_push]; rw [if_neg (by omega)]) ⟨fun ci' r' hk' hc' => ?_, fun hk' => ?_⟩
    · have hk2 : ((if h.2.2.2.2 = h.2.2.2.2 then (54, n.toNatClampNeg) else h.2.2.2.1 h.2.2.2.2) : Nat × Nat).1 = ci' + 1 := hk'
      rw [if_pos rfl] at hk2
      have : ci' < kx_cl.length := (List.getElem?_eq_some_iff.mp hc').1
      have h15 : kx_cl.length = 15 := rfl
      simp at hk2
      omega
    · have ht : (kx_new h 54 n.toNatClampNeg).2.2.2.1 h.2.2.2.2 = (54, n.toNatClampNeg) := by show (if h.2.2.2.2 = h.2.2.2.2 then (54, n.toNatClampNeg) else _) = _; rw [if_pos rfl]
      rw [ht, had]
      exact e1
  have := k p e s m args below meth c C _ locs ls hrel hL hl
  simp only [List.map_cons, kx_cv, had] at this
  exact this
/-- System.arraycopy from the start of one row of objects to the start of another -/
theorem kx_copyR {a0 a n0 n1 n ci : Nat} {r : vw_C} (hcl : f.2.2.1.1.cls = "java/util/Arrays") (ha0 : h.2.2.2.1 a0 = (54, n0)) (ha : h.2.2.2.1 a = (54, n1)) (hlt : a < 1000000) (hn0 : n ≤ n0) (hn1 : n ≤ n1) (hn : n < 2 ^ 31) (hc : kx_cl[ci]? = some r) (hca : Cond.castable r.1 "java/lang/Object" ∈ kx_nw) (hel : ∀ i, i < n → ∀ y, h.2.2.1 a0 i = some y → (h.2.2.2.1 y).1 = ci + 1) (hdd : 1 ≤ f.2.2.2.1) (hcat : (st.map fun v => v.category).sum ≤ 8) (hd : decode f.2.2.1.2.1 pc = .ok (.invokestatic 150, 3)) (kk : kx_X f cells slots (pc + 3) lv st (kx_cpR h a0 a n)) : kx_X f cells slots pc lv (.int (nI n) :: .int 0 :: .ref a :: .int 0 :: .ref a0 :: st) h := by
  intro p e s m args below meth c C H locs ls hR hL hlv
  obtain ⟨hx, hb, -, hml, hown, hts, -, -, hK⟩ := id C
  rw [hcl] at hown
  have hcat' : ((st.map (kx_cv f.2.1)).map fun v => v.category).sum ≤ 8 := by rw [List.map_map]; simpa [Function.comp_def, kx_cv_cat] using hcat
  have ecl : (nI n).toNatClampNeg = n := nI_clamp hn
  have rd : ∀ b nb, h.2.2.2.1 b = (54, nb) → H[kx_ad f.2.1 b]? = some (arrV (f.2.1.2.1 54) nb (fun j => va_rf ((h.2.2.1 b j).map (kx_ad f.2.1)))) := fun b nb hb' => by
    have := kx_at.arr hR (show (h.2.2.2.1 b).1 = 54 by rw [hb']) (by decide)
    rw [hb'] at this
    rw [this]
    congr 2
    funext j
    exact kx_cv_rf f.2.1 _
  have hc0 := rd a0 n0 ha0
  have hc1 := rd a n1 ha
  have hra := (hK.2.1 54 (by decide) (by decide))
  obtain ⟨-, k0, hk0, cm0, hkk0⟩ := hra.1 n0 (fun j => va_rf ((h.2.2.1 a0 j).map (kx_ad f.2.1)))
  obtain ⟨-, k1, hk1, cm1, hkk1⟩ := hra.1 n1 (fun j => va_rf ((h.2.2.1 a j).map (kx_ad f.2.1)))
  have tn : (nI n).toInt = (n : Int) := nI_toInt hn
  intro T hT X
  obtain ⟨vm', X', step⟩ := X.arraycopy hx hown (hts _ kl_ac.1) (hts _ kl_ac.2.2.1) (hts _ kl_ac.2.1) (hts _ kl_ac.2.2.2) (src := kx_ad f.2.1 a0) (dst := kx_ad f.2.1 a) (cs := arrV (f.2.1.2.1 54) n0 (fun j => va_rf ((h.2.2.1 a0 j).map (kx_ad f.2.1)))) (cd := arrV (f.2.1.2.1 54) n1 (fun j => va_rf ((h.2.2.1 a j).map (kx_ad f.2.1)))) (srcPos := 0) (destPos := 0) (n := nI n) (by rw [hT]; exact hc0) (by rw [hT]; exact hc1)
    (fun _ h => by cases h) (fun _ h => by cases h) (fun h => by cases h) (fun h => by cases h) hk0 hk1 hkk0 hkk1 rfl (by decide) (by decide) (nI_pos hn)
    (by rw [tn, arrV_size]; show ¬ (0 : Int) + _ > _; omega)
    (by rw [tn, arrV_size]; show ¬ (0 : Int) + _ > _; omega)
    (fun vm₁ hal i hi => by
      rw [ecl] at hi
      have e : (arrV (f.2.1.2.1 54) n0 (fun j => va_rf ((h.2.2.1 a0 j).map (kx_ad f.2.1)))).slots.getD ((0 : Int32).toNatClampNeg + i) .null = va_rf ((h.2.2.1 a0 i).map (kx_ad f.2.1)) := by
        rw [show (0 : Int32).toNatClampNeg = 0 from rfl, Nat.zero_add, Array.getD_eq_getD_getElem?, arrV_read _ _ (by omega)]
        rfl
      rw [e]
      cases hy : h.2.2.1 a0 i with
      | none => exact ⟨rfl, trivial⟩
      | some y =>
        obtain ⟨cellV, g1, g2, g3⟩ := kx_recv hK hR (hel i hi y hy) hc
        obtain ⟨kA, comp, r1, r2, r3, -⟩ := hra.2
        cases hk1.symm.trans r1
        cases hkk1.symm.trans r2
        obtain ⟨kC, hkC, -⟩ := Vm.findClass_spec g3
        obtain ⟨kE, hkE, -⟩ := Vm.findClass_spec r3
        obtain ⟨kC', hkC', -⟩ := hal.2.2 _ _ hkC
        obtain ⟨kE', hkE', -⟩ := hal.2.2 _ _ hkE
        refine ⟨rfl, cellV, (show T.heap[kx_ad f.2.1 y]? = some cellV by rw [hT]; exact g1), (fun q h => by rw [h] at g2; cases g2), ⟨kC', hkC'⟩, ?_, ?_⟩
        · exact ⟨kE', hkE'⟩
        · show vm₁.assignable _ _ = true
          rw [hal.assignable]
          obtain ⟨c0, t0, f1, f2, f3⟩ := Cond.castable_spec (va_Nw.use (A := args) rfl (hK.2.2.1 _ hca))
          cases g3.symm.trans f1
          cases r3.symm.trans f2
          exact f3)
    (g := F0 m pc ls ((Value.int (nI n) :: .int 0 :: .ref a :: .int 0 :: .ref a0 :: st).map (kx_cv f.2.1))) rfl (by rw [hml]; exact hlv.1) (rest := st.map (kx_cv f.2.1)) rfl (by rw [hb]; exact hd) hdd (by show 2 * 0 + _ + _ ≤ 32 * f.2.2.2.1; have hw : nativeFrameWords "java/lang/System" "arraycopy" 5 = 7 := (by decide); omega)
  have e1 : copied (arrV (f.2.1.2.1 54) n0 (fun j => va_rf ((h.2.2.1 a0 j).map (kx_ad f.2.1)))) (arrV (f.2.1.2.1 54) n1 (fun j => va_rf ((h.2.2.1 a j).map (kx_ad f.2.1)))) 0 0 (nI n) = arrV (f.2.1.2.1 54) n1 (fun j => kx_cv f.2.1 (kx_mv (kx_cpR h a0 a n) (kx_ak 54) a j)) := by
    have := va_copied (fun z : Option Nat => va_rf (z.map (kx_ad f.2.1))) (f.2.1.2.1 54) (f.2.1.2.1 54) (n0 := n0) (n1 := n1) (sp := 0) (dp := 0) (n := n) (fun j => h.2.2.1 a0 j) (fun j => h.2.2.1 a j) (by omega)
    unfold copied
    rw [ecl, show (0 : Int32).toNatClampNeg = 0 from rfl, this]
    congr 1
    funext j
    show _ = kx_cv f.2.1 (kx_rf (if a = a then (if j < n then h.2.2.1 a0 j else h.2.2.1 a j) else h.2.2.1 a j))
    rw [if_pos rfl, kx_cv_rf]
    unfold va_cpy
    by_cases hj : j < n
    · rw [if_pos hj, if_pos ⟨Nat.zero_le _, by omega⟩]
      simp
    · rw [if_neg hj, if_neg (by omega)]
  rw [e1] at X' step
  have hl : kx_ad f.2.1 a < H.size := (Array.getElem?_eq_some_iff.mp hc1).1
  have hheap : ((T.setVm vm').setCell (kx_ad f.2.1 a) (arrV (f.2.1.2.1 54) n1 (fun j => kx_cv f.2.1 (kx_mv (kx_cpR h a0 a n) (kx_ak 54) a j)))).heap = H.setIfInBounds (kx_ad f.2.1 a) (arrV (f.2.1.2.1 54) n1 (fun j => kx_cv f.2.1 (kx_mv (kx_cpR h a0 a n) (kx_ak 54) a j))) := by rw [← hT]; rfl
  have hrel : kx_Rel f.2.1 (kx_cpR h a0 a n) (H.setIfInBounds (kx_ad f.2.1 a) (arrV (f.2.1.2.1 54) n1 (fun j => kx_cv f.2.1 (kx_mv (kx_cpR h a0 a n) (kx_ak 54) a j)))) := by
    refine hR.one (a := a) rfl hlt (by simp) (fun q hq => by simp [Array.getElem?_setIfInBounds, Ne.symm hq]) (fun ty b k hb' => ?_) ⟨fun ci' r' hk' hc' => ?_, fun hk' => ?_⟩
    · unfold kx_mv kx_cpR
      cases ty <;> simp [hb']
    · have hk2 : (h.2.2.2.1 a).1 = ci' + 1 := hk'
      rw [ha] at hk2
      have : ci' < kx_cl.length := (List.getElem?_eq_some_iff.mp hc').1
      have h15 : kx_cl.length = 15 := rfl
      simp at hk2
      omega
    · have ht : (kx_cpR h a0 a n).2.2.2.1 a = (54, n1) := ha
      rw [ht]
      simp [Array.getElem?_setIfInBounds, hl]
  have hbase : f.2.1.2.2.1 ≤ kx_ad f.2.1 a := by unfold kx_ad; rw [if_pos hlt]; omega
  obtain ⟨t, a1, b1⟩ := kk p e s m args below meth c C _ _ ls hrel (fun q hq => by
      rcases List.mem_append.mp hq with h | h
      · exact hL q h
      · obtain ⟨z, -, hz⟩ := List.mem_map.mp h
        rw [← hz]
        exact hbase) hlv _ hheap X'
  exact ⟨t, step t a1, b1⟩
end KXR
