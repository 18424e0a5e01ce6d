/-! arrays, new objects, casts, calls -/
theorem kx_at.arr {g : kx_G} {h : kx_Mem} {H : Heap} {a k : Nat} (hR : kx_Rel g h H) (hk : (h.2.2.2.1 a).1 = k) (h50 : 50 ≤ k) : H[kx_ad g a]? = some (arrV (g.2.1 k) (h.2.2.2.1 a).2 (fun j => kx_cv g (kx_mv h (kx_ak k) a j))) := by
  subst hk
  exact (hR.2.2.2.2 a).2 h50
/-- an array has changed at one place -/
theorem kx_Rel.put {g : kx_G} {h h' : kx_Mem} {H H' : Heap} {a k i : Nat} {v : Value} (hR : kx_Rel g h H) (hk : (h.2.2.2.1 a).1 = k) (h50 : 50 ≤ k) (ha : a < 1000000) (hT : h'.2.2.2 = h.2.2.2) (hm : ∀ (ty : FieldType) (b k : Nat), b ≠ a → kx_mv h' ty b k = kx_mv h ty b k)
    (hm2 : ∀ j, kx_mv h' (kx_ak k) a j = if j = i then v else kx_mv h (kx_ak k) a j) (e1 : H'[kx_ad g a]? = some ((arrV (g.2.1 k) (h.2.2.2.1 a).2 (fun j => kx_cv g (kx_mv h (kx_ak k) a j))).setSlot i (kx_cv g v))) (e2 : H'.size = H.size) (e3 : ∀ q : Nat, q ≠ kx_ad g a → H'[q]? = H[q]?) : kx_Rel g h' H' := by
  refine hR.one hT ha e2 e3 hm ⟨fun ci r hk' hc' => ?_, fun hk' => ?_⟩
  · rw [hT] at hk'
    have : ci < kx_cl.length := (List.getElem?_eq_some_iff.mp hc').1
    have h15 : kx_cl.length = 15 := rfl
    omega
  · rw [hT, hk, e1, arrV_store]
    congr 2
    funext j
    rw [hm2 j]
    unfold updV
    split <;> rfl
section KXA
variable {f : kx_F} {cells slots pc : Nat} {lv : List (Option Value)} {st : List Value} {h : kx_Mem}
theorem kx_iald {a : Nat} {i : Int32} (hk : (h.2.2.2.1 a).1 = 50) (hin : vp_in i (h.2.2.2.1 a).2) (hd : decode f.2.2.1.2.1 pc = .ok (.iaload, 1)) (k : kx_X f cells slots (pc + 1) lv (.int (h.1 a i.toNatClampNeg) :: st) h) : kx_X f cells slots pc lv (.int i :: .ref a :: st) h := by
  intro p e s m args below meth c C H locs ls hR hL hl
  have hlt : i.toNatClampNeg < (h.2.2.2.1 a).2 := Nat.not_le.mp fun q => hin (Or.inr q)
  exact W.iald (v := kx_cv f.2.1 (.int (h.1 a i.toNatClampNeg))) C.1 C.2.1 (kx_at.arr hR hk (by decide)) ((C.2.2.2.2.2.2.2.2.2.1 50 (by decide) (by decide)).1 _ _) (fun q => by cases q) (by rw [arrV_size]; exact hin) (by rw [arrV_read _ _ hlt]; rfl) rfl rfl hd (k p e s m args below meth c C H locs ls hR hL hl)
theorem kx_lald {a : Nat} {i : Int32} (hk : (h.2.2.2.1 a).1 = 51) (hin : vp_in i (h.2.2.2.1 a).2) (hd : decode f.2.2.1.2.1 pc = .ok (.laload, 1)) (k : kx_X f cells slots (pc + 1) lv (.long (h.2.1 a i.toNatClampNeg) :: st) h) : kx_X f cells slots pc lv (.int i :: .ref a :: st) h := by
  intro p e s m args below meth c C H locs ls hR hL hl
  have hlt : i.toNatClampNeg < (h.2.2.2.1 a).2 := Nat.not_le.mp fun q => hin (Or.inr q)
  exact W.lald (v := kx_cv f.2.1 (.long (h.2.1 a i.toNatClampNeg))) C.1 C.2.1 (kx_at.arr hR hk (by decide)) ((C.2.2.2.2.2.2.2.2.2.1 51 (by decide) (by decide)).1 _ _) (fun q => by cases q) (by rw [arrV_size]; exact hin) (by rw [arrV_read _ _ hlt]; rfl) rfl rfl hd (k p e s m args below meth c C H locs ls hR hL hl)
theorem kx_bald {a : Nat} {i : Int32} (hk : (h.2.2.2.1 a).1 = 52) (hin : vp_in i (h.2.2.2.1 a).2) (hd : decode f.2.2.1.2.1 pc = .ok (.baload, 1)) (k : kx_X f cells slots (pc + 1) lv (.int (h.1 a i.toNatClampNeg) :: st) h) : kx_X f cells slots pc lv (.int i :: .ref a :: st) h := by
  intro p e s m args below meth c C H locs ls hR hL hl
  have hlt : i.toNatClampNeg < (h.2.2.2.1 a).2 := Nat.not_le.mp fun q => hin (Or.inr q)
  exact W.bald (v := kx_cv f.2.1 (.int (h.1 a i.toNatClampNeg))) C.1 C.2.1 (kx_at.arr hR hk (by decide)) ((C.2.2.2.2.2.2.2.2.2.1 52 (by decide) (by decide)).1 _ _) (fun q => by cases q) (by rw [arrV_size]; exact hin) (by rw [arrV_read _ _ hlt]; rfl) rfl rfl hd (k p e s m args below meth c C H locs ls hR hL hl)
theorem kx_zald {a : Nat} {i : Int32} (hk : (h.2.2.2.1 a).1 = 53) (hin : vp_in i (h.2.2.2.1 a).2) (hd : decode f.2.2.1.2.1 pc = .ok (.baload, 1)) (k : kx_X f cells slots (pc + 1) lv (.int (h.1 a i.toNatClampNeg) :: st) h) : kx_X f cells slots pc lv (.int i :: .ref a :: st) h := by
  intro p e s m args below meth c C H locs ls hR hL hl
  have hlt : i.toNatClampNeg < (h.2.2.2.1 a).2 := Nat.not_le.mp fun q => hin (Or.inr q)
  exact W.zald (v := kx_cv f.2.1 (.int (h.1 a i.toNatClampNeg))) C.1 C.2.1 (kx_at.arr hR hk (by decide)) ((C.2.2.2.2.2.2.2.2.2.1 53 (by decide) (by decide)).1 _ _) (fun q => by cases q) (by rw [arrV_size]; exact hin) (by rw [arrV_read _ _ hlt]; rfl) rfl rfl hd (k p e s m args below meth c C H locs ls hR hL hl)
theorem kx_ald54 {a : Nat} {i : Int32} (hk : (h.2.2.2.1 a).1 = 54) (hin : vp_in i (h.2.2.2.1 a).2) (hd : decode f.2.2.1.2.1 pc = .ok (.aaload, 1)) (k : kx_X f cells slots (pc + 1) lv (kx_rf (h.2.2.1 a i.toNatClampNeg) :: st) h) : kx_X f cells slots pc lv (.int i :: .ref a :: st) h := by
  intro p e s m args below meth c C H locs ls hR hL hl
  have hlt : i.toNatClampNeg < (h.2.2.2.1 a).2 := Nat.not_le.mp fun q => hin (Or.inr q)
  exact W.aald (v := kx_cv f.2.1 (kx_rf (h.2.2.1 a i.toNatClampNeg))) C.1 C.2.1 (kx_at.arr hR hk (by decide)) ((C.2.2.2.2.2.2.2.2.2.1 54 (by decide) (by decide)).1 _ _) rfl (fun q => by cases q) (by rw [arrV_size]; exact hin) (by rw [arrV_read _ _ hlt]; rfl) rfl rfl hd (k p e s m args below meth c C H locs ls hR hL hl)
theorem kx_ald55 {a : Nat} {i : Int32} (hk : (h.2.2.2.1 a).1 = 55) (hin : vp_in i (h.2.2.2.1 a).2) (hd : decode f.2.2.1.2.1 pc = .ok (.aaload, 1)) (k : kx_X f cells slots (pc + 1) lv (kx_rf (h.2.2.1 a i.toNatClampNeg) :: st) h) : kx_X f cells slots pc lv (.int i :: .ref a :: st) h := by
  intro p e s m args below meth c C H locs ls hR hL hl
  have hlt : i.toNatClampNeg < (h.2.2.2.1 a).2 := Nat.not_le.mp fun q => hin (Or.inr q)
  exact W.aald (v := kx_cv f.2.1 (kx_rf (h.2.2.1 a i.toNatClampNeg))) C.1 C.2.1 (kx_at.arr hR hk (by decide)) ((C.2.2.2.2.2.2.2.2.2.1 55 (by decide) (by decide)).1 _ _) rfl (fun q => by cases q) (by rw [arrV_size]; exact hin) (by rw [arrV_read _ _ hlt]; rfl) rfl rfl hd (k p e s m args below meth c C H locs ls hR hL hl)
theorem kx_ald56 {a : Nat} {i : Int32} (hk : (h.2.2.2.1 a).1 = 56) (hin : vp_in i (h.2.2.2.1 a).2) (hd : decode f.2.2.1.2.1 pc = .ok (.aaload, 1)) (k : kx_X f cells slots (pc + 1) lv (kx_rf (h.2.2.1 a i.toNatClampNeg) :: st) h) : kx_X f cells slots pc lv (.int i :: .ref a :: st) h := by
  intro p e s m args below meth c C H locs ls hR hL hl
  have hlt : i.toNatClampNeg < (h.2.2.2.1 a).2 := Nat.not_le.mp fun q => hin (Or.inr q)
  exact W.aald (v := kx_cv f.2.1 (kx_rf (h.2.2.1 a i.toNatClampNeg))) C.1 C.2.1 (kx_at.arr hR hk (by decide)) ((C.2.2.2.2.2.2.2.2.2.1 56 (by decide) (by decide)).1 _ _) rfl (fun q => by cases q) (by rw [arrV_size]; exact hin) (by rw [arrV_read _ _ hlt]; rfl) rfl rfl hd (k p e s m args below meth c C H locs ls hR hL hl)
theorem kx_iast {a : Nat} {i : Int32} {x : Int32} (hk : (h.2.2.2.1 a).1 = 50) (ha : a < 1000000) (hin : vp_in i (h.2.2.2.1 a).2) (hd : decode f.2.2.1.2.1 pc = .ok (.iastore, 1)) (k : kx_X f cells slots (pc + 1) lv st (kx_setI h a i.toNatClampNeg (x))) : kx_X f cells slots pc lv (.int x :: .int i :: .ref a :: st) h := by
  intro p e s m args below meth c C H locs ls hR hL hl
  refine W.iast C.1 C.2.1 (kx_at.arr hR hk (by decide)) ((C.2.2.2.2.2.2.2.2.2.1 50 (by decide) (by decide)).1 _ _) (fun q => by cases q) (by rw [arrV_size]; exact hin) rfl rfl hd fun H' e1 e2 e3 => ?_
  have hbase : f.2.1.2.2.1 ≤ kx_ad f.2.1 a := by unfold kx_ad; rw [if_pos ha]; omega
  refine k p e s m args below meth c C H' _ ls (hR.put (k := 50) (v := .int (x)) hk (by decide) ha rfl (fun _ _ _ hb => kx_mv_setI hb) (fun j => ?_) e1 e2 e3) (fun q hq => ?_) hl
  · by_cases hj : j = i.toNatClampNeg
    · subst hj
      simp [kx_mv, kx_ak, kx_setI, kx_up_at, vp_nar, narrow]
    · simp [kx_mv, kx_ak, kx_setI, kx_up_at, hj]
  · rcases List.mem_append.mp hq with hq | hq
    · exact hL q hq
    · rw [List.mem_singleton.mp hq]; exact hbase
theorem kx_last {a : Nat} {i : Int32} {x : Int64} (hk : (h.2.2.2.1 a).1 = 51) (ha : a < 1000000) (hin : vp_in i (h.2.2.2.1 a).2) (hd : decode f.2.2.1.2.1 pc = .ok (.lastore, 1)) (k : kx_X f cells slots (pc + 1) lv st (kx_setL h a i.toNatClampNeg (x))) : kx_X f cells slots pc lv (.long x :: .int i :: .ref a :: st) h := by
  intro p e s m args below meth c C H locs ls hR hL hl
  refine W.last C.1 C.2.1 (kx_at.arr hR hk (by decide)) ((C.2.2.2.2.2.2.2.2.2.1 51 (by decide) (by decide)).1 _ _) (fun q => by cases q) (by rw [arrV_size]; exact hin) rfl rfl hd fun H' e1 e2 e3 => ?_
  have hbase : f.2.1.2.2.1 ≤ kx_ad f.2.1 a := by unfold kx_ad; rw [if_pos ha]; omega
  refine k p e s m args below meth c C H' _ ls (hR.put (k := 51) (v := .long (x)) hk (by decide) ha rfl (fun _ _ _ hb => kx_mv_setL hb) (fun j => ?_) e1 e2 e3) (fun q hq => ?_) hl
  · by_cases hj : j = i.toNatClampNeg
    · subst hj
      simp [kx_mv, kx_ak, kx_setL, kx_up_at, vp_nar, narrow]
    · simp [kx_mv, kx_ak, kx_setL, kx_up_at, hj]
  · rcases List.mem_append.mp hq with hq | hq
    · exact hL q hq
    · rw [List.mem_singleton.mp hq]; exact hbase
theorem kx_bast {a : Nat} {i : Int32} {x : Int32} (hk : (h.2.2.2.1 a).1 = 52) (ha : a < 1000000) (hin : vp_in i (h.2.2.2.1 a).2) (hd : decode f.2.2.1.2.1 pc = .ok (.bastore, 1)) (k : kx_X f cells slots (pc + 1) lv st (kx_setI h a i.toNatClampNeg (vp_nar .byte x))) : kx_X f cells slots pc lv (.int x :: .int i :: .ref a :: st) h := by
  intro p e s m args below meth c C H locs ls hR hL hl
  refine W.bast C.1 C.2.1 (kx_at.arr hR hk (by decide)) ((C.2.2.2.2.2.2.2.2.2.1 52 (by decide) (by decide)).1 _ _) (fun q => by cases q) (by rw [arrV_size]; exact hin) rfl rfl hd fun H' e1 e2 e3 => ?_
  have hbase : f.2.1.2.2.1 ≤ kx_ad f.2.1 a := by unfold kx_ad; rw [if_pos ha]; omega
  refine k p e s m args below meth c C H' _ ls (hR.put (k := 52) (v := .int (vp_nar .byte x)) hk (by decide) ha rfl (fun _ _ _ hb => kx_mv_setI hb) (fun j => ?_) e1 e2 e3) (fun q hq => ?_) hl
  · by_cases hj : j = i.toNatClampNeg
    · subst hj
      simp [kx_mv, kx_ak, kx_setI, kx_up_at, vp_nar, narrow]
    · simp [kx_mv, kx_ak, kx_setI, kx_up_at, hj]
  · rcases List.mem_append.mp hq with hq | hq
    · exact hL q hq
    · rw [List.mem_singleton.mp hq]; exact hbase
theorem kx_zast {a : Nat} {i : Int32} {x : Int32} (hk : (h.2.2.2.1 a).1 = 53) (ha : a < 1000000) (hin : vp_in i (h.2.2.2.1 a).2) (hd : decode f.2.2.1.2.1 pc = .ok (.bastore, 1)) (k : kx_X f cells slots (pc + 1) lv st (kx_setI h a i.toNatClampNeg (vp_nar .boolean x))) : kx_X f cells slots pc lv (.int x :: .int i :: .ref a :: st) h := by
  intro p e s m args below meth c C H locs ls hR hL hl
  refine W.zast C.1 C.2.1 (kx_at.arr hR hk (by decide)) ((C.2.2.2.2.2.2.2.2.2.1 53 (by decide) (by decide)).1 _ _) (fun q => by cases q) (by rw [arrV_size]; exact hin) rfl rfl hd fun H' e1 e2 e3 => ?_
  have hbase : f.2.1.2.2.1 ≤ kx_ad f.2.1 a := by unfold kx_ad; rw [if_pos ha]; omega
  refine k p e s m args below meth c C H' _ ls (hR.put (k := 53) (v := .int (vp_nar .boolean x)) hk (by decide) ha rfl (fun _ _ _ hb => kx_mv_setI hb) (fun j => ?_) e1 e2 e3) (fun q hq => ?_) hl
  · by_cases hj : j = i.toNatClampNeg
    · subst hj
      simp [kx_mv, kx_ak, kx_setI, kx_up_at, vp_nar, narrow]
    · simp [kx_mv, kx_ak, kx_setI, kx_up_at, hj]
  · rcases List.mem_append.mp hq with hq | hq
    · exact hL q hq
    · rw [List.mem_singleton.mp hq]; exact hbase
theorem kx_alen {a : Nat} {v : Int32} (hk : 50 ≤ (h.2.2.2.1 a).1 ∧ (h.2.2.2.1 a).1 < 57) (hv : Int32.ofNat (h.2.2.2.1 a).2 = v) (hd : decode f.2.2.1.2.1 pc = .ok (.arraylength, 1)) (k : kx_X f cells slots (pc + 1) lv (.int v :: st) h) : kx_X f cells slots pc lv (.ref a :: st) h := by
  intro p e s m args below meth c C H locs ls hR hL hl
  exact W.alen (n := v) C.1 C.2.1 (kx_at.arr hR rfl hk.1) ((C.2.2.2.2.2.2.2.2.2.1 _ hk.1 hk.2).1 _ _) (by rw [arrV_size]; exact hv) rfl rfl hd (k p e s m args below meth c C H locs ls hR hL hl)
/-- the class of an object by its kind -/
theorem kx_recv {g : kx_G} {s : State} {H : Heap} {a ci : Nat} {r : vw_C} (hK : kx_K g s) (hR : kx_Rel g h H) (hk : (h.2.2.2.1 a).1 = ci + 1) (hc : kx_cl[ci]? = some r) : ∃ cell : Cell, H[kx_ad g a]? = some cell ∧ cell.vm.isStatics = false ∧ s.vm.findClass r.1 = some cell.cls := by
  obtain ⟨cell, h1, h2, h3, -⟩ := (hR.2.2.2.2 a).1 ci r hk hc
  exact ⟨cell, h1, by rw [h3]; rfl, by rw [h2]; exact (hK.1.1 ci r hc).2.1⟩
/-- an object is put into an array of references: Object[] (54) or Rules[] (55) -/
theorem kx_aast {a v ci k : Nat} {i : Int32} {r : vw_C} (hk : (h.2.2.2.1 a).1 = k) (ha : a < 1000000) (hkv : (h.2.2.2.1 v).1 = ci + 1) (hc : kx_cl[ci]? = some r) (hty : (k = 54 ∧ Cond.castable r.1 "java/lang/Object" ∈ kx_nw) ∨ (k = 55 ∧ r.1 = "TreatyClaims$Rules")) (hin : vp_in i (h.2.2.2.1 a).2) (hd : decode f.2.2.1.2.1 pc = .ok (.aastore, 1))
    (kk : kx_X f cells slots (pc + 1) lv st (kx_setR h a i.toNatClampNeg (some v))) : kx_X f cells slots pc lv (.ref v :: .int i :: .ref a :: st) h := by
  intro p e s m args below meth c C H locs ls hR hL hl
  have h50 : 50 ≤ k := by rcases hty with h | h <;> omega
  have h57 : k < 57 := by rcases hty with h | h <;> omega
  obtain ⟨hx, hb, -, -, hown, hts, -, hnm, hK⟩ := id C
  have hlt : i.toNatClampNeg < (h.2.2.2.1 a).2 := Nat.not_le.mp fun q => hin (Or.inr q)
  have h0 : ¬ i < 0 := fun q => hin (Or.inl q)
  obtain ⟨cellV, g1, g2, g3, -⟩ := (hR.2.2.2.2 v).1 ci r hkv hc
  have hcls := (hK.1.1 ci r hc).2
  obtain ⟨kC, hkC, -⟩ := hcls.2
  have hra := (hK.2.1 k h50 h57).2
  obtain ⟨C1, kA, comp, k1, k2, kcomp, k4, kas⟩ : ∃ (C1 : String) (kA : Class) (comp : ClassId), s.vm.classes[f.2.1.2.1 k]? = some kA ∧ kA.kind = .array comp (.object C1) ∧ ∃ kcomp, s.vm.classes[comp]? = some kcomp ∧ s.vm.assignable (f.2.1.1.1 ci) comp = true := by
    rcases hty with ⟨rfl, hw⟩ | ⟨rfl, hw⟩
    · obtain ⟨kA, comp, k1, k2, k3, -⟩ := hra
      obtain ⟨c0, t0, f1, f2, f3⟩ := Cond.castable_spec (va_Nw.use (A := args) rfl (hK.2.2.1 _ hw))
      cases hcls.1.symm.trans f1
      cases k3.symm.trans f2
      obtain ⟨kc, hkc⟩ := Vm.classAt_of_findClass k3
      exact ⟨_, kA, comp, k1, k2, kc, hkc, f3⟩
    · obtain ⟨kA, comp, k1, k2, k3, -⟩ := hra
      rw [← hw] at k3
      have hcomp : comp = f.2.1.1.1 ci := Option.some.inj (k3.symm.trans hcls.1)
      subst hcomp
      exact ⟨_, kA, _, k1, k2, kC, hkC, va_assign hcls⟩
  refine W.aast hx hb (kx_at.arr hR hk h50) (fun q h => by cases h) (fun h => by cases h) k1 k2 rfl k4 ⟨h0, by rw [arrV_size]; exact hlt⟩ g1 (fun q h => by rw [g3] at h; cases h) (by rw [g2]; exact hkC) (by rw [g2]; exact kas) rfl rfl hd fun H' e1 e2 e3 => ?_
  have hbase : f.2.1.2.2.1 ≤ kx_ad f.2.1 a := by unfold kx_ad; rw [if_pos ha]; omega
  refine kk p e s m args below meth c C H' _ ls (hR.put (k := k) (v := .ref v) hk h50 ha rfl (fun _ _ _ hb => kx_mv_setR hb) (fun j => ?_) e1 e2 e3) (fun q hq => ?_) hl
  · rcases hty with ⟨rfl, -⟩ | ⟨rfl, -⟩
    · by_cases hj : j = i.toNatClampNeg
      · subst hj
        simp [kx_mv, kx_ak, kx_setR, kx_up_at, kx_rf]
      · simp [kx_mv, kx_ak, kx_setR, kx_up_at, hj]
    · by_cases hj : j = i.toNatClampNeg
      · subst hj
        simp [kx_mv, kx_ak, kx_setR, kx_up_at, kx_rf]
      · simp [kx_mv, kx_ak, kx_setR, kx_up_at, hj]
  · rcases List.mem_append.mp hq with hq | hq
    · exact hL q hq
    · rw [List.mem_singleton.mp hq]; exact hbase
/-- a cast to the object's own class -/
theorem kx_cast {a ci index : Nat} {r : vw_C} (hk : (h.2.2.2.1 a).1 = ci + 1) (hc : kx_cl[ci]? = some r) (hw : Cond.classLink f.2.2.1.1.cls index r.1 ∈ kx_good) (hd : decode f.2.2.1.2.1 pc = .ok (.checkcast index, 3)) (k : kx_X f cells slots (pc + 3) lv (.ref a :: st) h) : kx_X f cells slots pc lv (.ref a :: st) h := by
  intro p e s m args below meth c C H locs ls hR hL hl
  obtain ⟨hx, hb, -, -, hown, hts, -, hnm, hK⟩ := id C
  obtain ⟨cell, h1, h2, h3⟩ := kx_recv hK hR hk hc
  have hcls := (hK.1.1 ci r hc).2
  intro T hT X
  have e0 : cell.cls = f.2.1.1.1 ci := Option.some.inj (h3.symm.trans hcls.1)
  obtain ⟨vm', X', st'⟩ := X.checkcastYes hx hown (hts _ hw) (by rw [hT]; exact h1) h2 hcls.1 (by rw [e0]; exact va_assign hcls) (g := F0 m pc ls ((Value.ref a :: st).map (kx_cv f.2.1))) rfl rfl (by rw [hb]; exact hd)
  obtain ⟨t, a1, b1⟩ := k p e s m args below meth c C H locs ls hR hL hl (T.setVm vm') hT X'
  exact ⟨t, st' t a1, b1⟩
theorem kx_castN {index : Nat} (hd : decode f.2.2.1.2.1 pc = .ok (.checkcast index, 3)) (k : kx_X f cells slots (pc + 3) lv (.null :: st) h) : kx_X f cells slots pc lv (.null :: st) h := by
  intro p e s m args below meth c C H locs ls hR hL hl
  exact lv_castN C.1 C.2.1 hd (k p e s m args below meth c C H locs ls hR hL hl)
end KXA
/-! new objects -/
def kx_new (h : kx_Mem) (k len : Nat) : kx_Mem := (fun b j => if b = h.2.2.2.2 then 0 else h.1 b j, fun b j => if b = h.2.2.2.2 then 0 else h.2.1 b j, fun b j => if b = h.2.2.2.2 then none else h.2.2.1 b j, fun b => if b = h.2.2.2.2 then (k, len) else h.2.2.2.1 b, h.2.2.2.2 + 1)
theorem kx_mv_new {h : kx_Mem} {k len : Nat} {ty : FieldType} {b j : Nat} (hb : b ≠ h.2.2.2.2) : kx_mv (kx_new h k len) ty b j = kx_mv h ty b j := by
  unfold kx_mv kx_new; cases ty <;> simp [hb]
theorem kx_mv_new0 (g : kx_G) {h : kx_Mem} {k len : Nat} {ty : FieldType} {j : Nat} (ht : ty ≠ .float ∧ ty ≠ .double) : kx_cv g (kx_mv (kx_new h k len) ty h.2.2.2.2 j) = defaultValue ty := by
  unfold kx_mv kx_new
  obtain ⟨h1, h2⟩ := ht
  cases ty <;> simp [kx_rf, kx_cv, defaultValue] at * 
theorem kx_Rel.new {g : kx_G} {h : kx_Mem} {H H' : Heap} {k len : Nat} (hR : kx_Rel g h H) (hN : h.2.2.2.2 < 1000000) (e2 : H'.size = H.size + 1) (e3 : ∀ q : Nat, q < H.size → H'[q]? = H[q]?) (hat : kx_at g (kx_new h k len) H' h.2.2.2.2) : kx_Rel g (kx_new h k len) H' := by
  obtain ⟨r1, r2, r3, r4, r5⟩ := hR
  refine ⟨?_, ?_, ⟨fun b hb => by
    by_cases hbN : b = h.2.2.2.2
    · omega
    · have hb' : ((if b = h.2.2.2.2 then (k, len) else h.2.2.2.1 b) : Nat × Nat).1 ≠ 0 := hb
      rw [if_neg hbN] at hb'
      exact r3.1 b hb', fun q hq => by rw [e3 q (by omega)]; exact r3.2 q hq⟩, fun b hb => ?_, fun b => ?_⟩
  · show H'.size = g.2.2.1 + (h.2.2.2.2 + 1)
    rw [e2, r1]
    omega
  · show h.2.2.2.2 + 1 ≤ 1000000
    omega
  · show b < h.2.2.2.2 + 1 ∨ 1000000 ≤ b
    by_cases hbN : b = h.2.2.2.2
    · omega
    · have : (h.2.2.2.1 b).1 ≠ 0 := by
        have hb' : ((if b = h.2.2.2.2 then (k, len) else h.2.2.2.1 b) : Nat × Nat).1 ≠ 0 := hb
        rwa [if_neg hbN] at hb'
      have := r4 b this
      omega
  · by_cases hbN : b = h.2.2.2.2
    · rw [hbN]; exact hat
    · have hT : (kx_new h k len).2.2.2.1 b = h.2.2.2.1 b := by show (if b = h.2.2.2.2 then (k, len) else h.2.2.2.1 b) = _; rw [if_neg hbN]
      have hlt : (h.2.2.2.1 b).1 ≠ 0 → kx_ad g b < H.size := fun h0 => by
        rcases r4 b h0 with h1 | h1
        · unfold kx_ad
          rw [if_pos (by omega), r1]
          omega
        · exact absurd (r3.1 b h0) (by omega)
      obtain ⟨p1, p2⟩ := r5 b
      unfold kx_at
      rw [hT]
      refine ⟨fun ci r hk hc => ?_, fun hk => ?_⟩
      · exact ((p1 ci r hk hc).kept (e3 _ (hlt (by omega)))).to (fun j _ => by rw [kx_mv_new hbN])
      · rw [e3 _ (hlt (by omega)), p2 hk]
        congr 2
        funext j
        rw [kx_mv_new hbN]
theorem kx_ty_nf : ∀ ci r, kx_cl[ci]? = some r → ∀ j, j < r.2.2 → kx_ty ci j ≠ .float ∧ kx_ty ci j ≠ .double := by
  intro ci r h
  have hall : ∀ c, c < 15 → ∀ j, j < 100 → kx_ty c j ≠ .float ∧ kx_ty c j ≠ .double := by decide +kernel
  have h1 : ci < 15 := (List.getElem?_eq_some_iff.mp h).1
  have h2 : ∀ c, c < 15 → ∀ q, kx_cl[c]? = some q → q.2.2 ≤ 100 := by
    intro c hc q hq
    match c, hq with
    | 0, hq | 1, hq | 2, hq | 3, hq | 4, hq | 5, hq | 6, hq | 7, hq | 8, hq | 9, hq | 10, hq | 11, hq | 12, hq | 13, hq | 14, hq => cases hq; decide
    | n + 15, hq => simp [kx_cl] at hq
  intro j hj
  exact hall ci h1 j (by have := h2 ci h1 r h; omega)
section KXN
variable {f : kx_F} {cells slots pc : Nat} {lv : List (Option Value)} {st : List Value} {h : kx_Mem}
theorem kx_newO {ci index : Nat} {r : vw_C} (hc : kx_cl[ci]? = some r) (hw : Cond.classLink f.2.2.1.1.cls index r.1 ∈ kx_good) (hw2 : Cond.instantiable r.1 r.2.2 ∈ kx_good) (hw3 : Cond.initialized r.1 ∈ kx_good) (hN : h.2.2.2.2 < 1000000) (hcells : cells + 1 ≤ f.2.2.2.2.1) (hslots : slots + r.2.2 ≤ f.2.2.2.2.2.1) (hd : decode f.2.2.1.2.1 pc = .ok (.new index, 3))
    (k : kx_X f (cells + 1) (slots + r.2.2) (pc + 3) lv (.ref h.2.2.2.2 :: st) (kx_new h (ci + 1) 0)) : kx_X f cells slots pc lv st h := by
  intro p e s m args below meth c C H locs ls hR hL hl
  obtain ⟨hx, hb, -, -, hown, hts, -, hnm, hK⟩ := id C
  have hKn := hK.1.1 ci _ hc
  refine W.newcK hx hb hown (hts _ hw) (hts _ hw2) (hts _ hw3) rfl hd hcells hslots hKn.2.1 rfl fun H1 kC hkC e1 z1 o1 => ?_
  have had : kx_ad f.2.1 h.2.2.2.2 = H.size := by unfold kx_ad; rw [if_pos hN, hR.1]
  have hrel : kx_Rel f.2.1 (kx_new h (ci + 1) 0) H1 := by
    refine hR.new hN z1 o1 ⟨fun ci' r' hk' hc' => ?_, fun hk' => ?_⟩
    · have hk2 : ((if h.2.2.2.2 = h.2.2.2.2 then (ci + 1, 0) else h.2.2.2.1 h.2.2.2.2) : Nat × Nat).1 = ci' + 1 := hk'
      rw [if_pos rfl] at hk2
      have hci : ci' = ci := by simp at hk2; omega
      subst hci
      cases hc.symm.trans hc'
      rw [had]
      exact (u_born (kx_ty ci') hts (kx_cw ci' r hc).1 hKn hkC e1 (kx_cw ci' r hc).2.1).to (fun j hj => (kx_mv_new0 f.2.1 (kx_ty_nf ci' r hc j hj)).symm)
    · have hk2 : 50 ≤ ((if h.2.2.2.2 = h.2.2.2.2 then (ci + 1, 0) else h.2.2.2.1 h.2.2.2.2) : Nat × Nat).1 := hk'
      rw [if_pos rfl] at hk2
      have : ci < kx_cl.length := (List.getElem?_eq_some_iff.mp hc).1
      have h15 : kx_cl.length = 15 := rfl
      simp at hk2
      omega
  have := k p e s m args below meth c C H1 locs ls hrel hL hl
  simp only [List.map_cons, kx_cv, had] at this
  exact this
theorem kx_newa {atype : ArrayType} {n : Int32} {kd N' : Nat} (hkd : 50 ≤ kd ∧ kd < 54) (hty : newarray.typeOf atype = kx_ak kd) (hw : Cond.arrayClass (kx_ak kd) ∈ kx_good) (hn : ¬ n < 0) (hN' : n.toNatClampNeg = N') (hbytes : N' * componentBytes (kx_ak kd) ≤ 536870912) (hN : h.2.2.2.2 < 1000000) (hcells : cells + 1 ≤ f.2.2.2.2.1) (hslots : slots + N' ≤ f.2.2.2.2.2.1) (hd : decode f.2.2.1.2.1 pc = .ok (.newarray atype, 2))
    (k : kx_X f (cells + 1) (slots + N') (pc + 2) lv (.ref h.2.2.2.2 :: st) (kx_new h kd N')) : kx_X f cells slots pc lv (.int n :: st) h := by
  intro p e s m args below meth c C H locs ls hR hL hl
  obtain ⟨hx, hb, -, -, hown, hts, -, hnm, hK⟩ := id C
  refine va_newaK hx hb (by rw [hty]; exact hts _ hw) rfl hd rfl hn hN' (by rw [hty]; exact hbytes) hcells hslots rfl fun H1 cA e1 z1 o1 hAr hNm => ?_
  have had : kx_ad f.2.1 h.2.2.2.2 = H.size := by unfold kx_ad; rw [if_pos hN, hR.1]
  have hra := (hK.2.1 kd hkd.1 (by omega)).2
  have hnf : kx_ak kd ≠ .float ∧ kx_ak kd ≠ .double := by
    have : ∀ q, q < 54 → kx_ak q ≠ .float ∧ kx_ak q ≠ .double := by decide +kernel
    exact this kd hkd.2
  have hcA : cA = f.2.1.2.1 kd := by
    rw [hty] at hNm
    have h4 : kd = 50 ∨ kd = 51 ∨ kd = 52 ∨ kd = 53 := by omega
    rcases h4 with rfl | rfl | rfl | rfl <;> exact Option.some.inj (hNm.symm.trans hra)
  subst hcA
  have hrel : kx_Rel f.2.1 (kx_new h kd N') H1 := by
    refine hR.new hN z1 o1 ⟨fun ci' r' hk' hc' => ?_, fun hk' => ?_⟩
    · have hk2 : ((if h.2.2.2.2 = h.2.2.2.2 then (kd, N') else h.2.2.2.1 h.2.2.2.2) : Nat × Nat).1 = ci' + 1 := hk'
      rw [if_pos rfl] at hk2
      have : ci' < kx_cl.length := (List.getElem?_eq_some_iff.mp hc').1
      have h15 : kx_cl.length = 15 := rfl
      simp at hk2
      omega
    · have ht : (kx_new h kd N').2.2.2.1 h.2.2.2.2 = (kd, N') := by show (if h.2.2.2.2 = h.2.2.2.2 then (kd, N') else _) = _; rw [if_pos rfl]
      rw [ht, had, e1, hty]
      congr 2
      funext j
      exact (kx_mv_new0 f.2.1 hnf).symm
  have := k p e s m args below meth c C H1 locs ls hrel hL hl
  simp only [List.map_cons, kx_cv, had] at this
  exact this
end KXN
