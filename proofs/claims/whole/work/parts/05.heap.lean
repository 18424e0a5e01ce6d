/-! fields and arrays over the memory -/
def kx_up {α : Type} (f : Nat → Nat → α) (a j : Nat) (v : α) : Nat → Nat → α := fun b k => if b = a then (if k = j then v else f b k) else f b k
def kx_setI (h : kx_Mem) (a j : Nat) (v : Int32) : kx_Mem := (kx_up h.1 a j v, h.2)
def kx_setL (h : kx_Mem) (a j : Nat) (v : Int64) : kx_Mem := (h.1, kx_up h.2.1 a j v, h.2.2)
def kx_setR (h : kx_Mem) (a j : Nat) (v : Option Nat) : kx_Mem := (h.1, h.2.1, kx_up h.2.2.1 a j v, h.2.2.2)
theorem kx_up_ne {α : Type} {f : Nat → Nat → α} {a j b k : Nat} {v : α} (h : b ≠ a) : kx_up f a j v b k = f b k := by unfold kx_up; rw [if_neg h]
theorem kx_up_at {α : Type} {f : Nat → Nat → α} {a j k : Nat} {v : α} : kx_up f a j v a k = if k = j then v else f a k := by unfold kx_up; rw [if_pos rfl]
theorem kx_ad_ne {g : kx_G} {a b : Nat} (hb1 : b < 1000000) (ha : a < 1000000) (hb : b ≠ a) : kx_ad g b ≠ kx_ad g a := by
  unfold kx_ad
  rw [if_pos ha, if_pos hb1]
  omega
/-- one cell of the heap has changed, and one object of the memory with it -/
theorem kx_Rel.one {g : kx_G} {h h' : kx_Mem} {H H' : Heap} {a : Nat} (hR : kx_Rel g h H) (hT : h'.2.2.2 = h.2.2.2) (ha : a < 1000000) (e2 : H'.size = H.size) (e3 : ∀ q : Nat, q ≠ kx_ad g a → H'[q]? = H[q]?)
    (hm : ∀ (ty : FieldType) (b k : Nat), b ≠ a → kx_mv h' ty b k = kx_mv h ty b k) (hat : kx_at g h' H' a) : kx_Rel g h' H' := by
  obtain ⟨r1, r2, r3, r4, r5⟩ := hR
  refine ⟨by rw [e2, hT]; exact r1, by rw [hT]; exact r2, ⟨fun b hb => by rw [hT] at hb; exact r3.1 b hb, fun q hq => by rw [e3 q (by unfold kx_ad; rw [if_pos ha]; omega)]; exact r3.2 q hq⟩, fun b hb => by rw [hT] at hb ⊢; exact r4 b hb, fun b => ?_⟩
  by_cases hb : b = a
  · subst hb; exact hat
  · by_cases hz : (h.2.2.2.1 b).1 = 0
    · unfold kx_at
      rw [hT]
      exact ⟨fun ci r hk _ => by omega, fun hk => by omega⟩
    have hq := e3 _ (kx_ad_ne (r3.1 b hz) ha hb)
    obtain ⟨h1, h2⟩ := r5 b
    unfold kx_at
    rw [hT]
    refine ⟨fun ci r hk hc => ?_, fun hk => ?_⟩
    · exact ((h1 ci r hk hc).kept hq).to (fun j _ => by rw [hm _ _ _ hb])
    · rw [hq, h2 hk]
      congr 2
      funext j
      rw [hm _ _ _ hb]
theorem kx_mv_setI {h : kx_Mem} {a j : Nat} {v : Int32} {ty : FieldType} {b k : Nat} (hb : b ≠ a) : kx_mv (kx_setI h a j v) ty b k = kx_mv h ty b k := by
  unfold kx_mv kx_setI; cases ty <;> simp [kx_up_ne hb]
theorem kx_mv_setL {h : kx_Mem} {a j : Nat} {v : Int64} {ty : FieldType} {b k : Nat} (hb : b ≠ a) : kx_mv (kx_setL h a j v) ty b k = kx_mv h ty b k := by
  unfold kx_mv kx_setL; cases ty <;> simp [kx_up_ne hb]
theorem kx_mv_setR {h : kx_Mem} {a j : Nat} {v : Option Nat} {ty : FieldType} {b k : Nat} (hb : b ≠ a) : kx_mv (kx_setR h a j v) ty b k = kx_mv h ty b k := by
  unfold kx_mv kx_setR; cases ty <;> simp [kx_up_ne hb]
theorem kx_FL.same {s : State} {args : Array Value} {r : vw_C} {j : Nat} {ref : String} (hts : ∀ w ∈ kx_good, w.before args s = true) (hs : ref = (r.2.1 j).1 ∨ Cond.sameField ref (r.2.1 j).1 (r.2.1 j).2.1 (r.2.1 j).2.2.1 ∈ kx_good) :
    ∀ x, s.fieldFound? (r.2.1 j).1 (r.2.1 j).2.1 (r.2.1 j).2.2.1 = some x → s.fieldFound? ref (r.2.1 j).2.1 (r.2.1 j).2.2.1 = some x := by
  intro x hx
  rcases hs with rfl | hs
  · exact hx
  · exact u_same (hts _ hs) x hx
section KXH
variable {f : kx_F} {cells slots pc : Nat} {lv : List (Option Value)} {st : List Value} {h : kx_Mem}
theorem kx_getf {a idx ci j : Nat} (hf : kx_FL f.2.2.1.1.cls idx ci j) (hk : (h.2.2.2.1 a).1 = ci + 1) (hd : decode f.2.2.1.2.1 pc = .ok (.getfield idx, 3)) (k : kx_X f cells slots (pc + 3) lv (kx_mv h (kx_ty ci j) a j :: st) h) : kx_X f cells slots pc lv (.ref a :: st) h := by
  intro p e s m args below meth c C H locs ls hR hL hl
  obtain ⟨r, ref, hc, hj, hlk, hsm⟩ := hf
  obtain ⟨cell, q1, q2, q3, q4⟩ := (hR.2.2.2.2 a).1 ci r hk hc
  obtain ⟨hx, hb, -, -, hown, hts, -, -, hK⟩ := id C
  obtain ⟨hS, hfc, kC, hkC, hkind⟩ := hK.1.1 ci _ hc
  obtain ⟨cf, kf, fi, fd, hi, hsl⟩ := hS j hj
  have hst := (u_facts hfc hkC (u_lays hts (kx_cw ci r hc).1 hj) hi).1
  have hsame := kx_FL.same hts hsm _ hi
  have hv : cell.slots[fd.slot]? = some (kx_cv f.2.1 (kx_mv h (kx_ty ci j) a j)) := by rw [hsl]; exact q4 j hj
  rcases hlk with hlk | ⟨host, hlk⟩
  · exact W.getf hx hb hown (hts _ hlk) hsame hst q1 (by rw [q3]; exact fun h => by cases h) hv rfl rfl hd (k p e s m args below meth c C H locs ls hR hL hl)
  · exact va_Wgetf hx hb hown (va_Nw.use rfl (hK.2.2.1 _ hlk)) hsame hst q1 (by rw [q3]; exact fun h => by cases h) hv rfl rfl hd (k p e s m args below meth c C H locs ls hR hL hl)
theorem kx_apart {g : kx_G} {s : State} {args : Array Value} {ci : Nat} {r : vw_C} (hts : ∀ w ∈ kx_good, w.before args s = true) (hK : kx_K g s) (hc : kx_cl[ci]? = some r) : ∀ x y, x < r.2.2 → y < r.2.2 → x ≠ y → (g.1.2 ci) x ≠ (g.1.2 ci) y :=
  va_apart (own := "") (C := r.1) (T := r.2.1) (N := r.2.2) hts (kx_cw ci r hc).1 (kx_ty ci) (kx_cw ci r hc).2.1 (kx_cw ci r hc).2.2 hK.1 hc
/-- a field is written -/
theorem kx_putf {a idx ci j : Nat} {v : Value} {h' : kx_Mem} (hf : kx_FL f.2.2.1.1.cls idx ci j) (hk : (h.2.2.2.1 a).1 = ci + 1) (ha : a < 1000000) (hfin : (∀ r, kx_cl[ci]? = some r → (r.2.1 j).2.2.2 = false) ∨ (f.2.2.1.1.name = "<init>" ∧ ∀ r, kx_cl[ci]? = some r → (r.2.1 j).2.2.2 = true ∧ (r.2.1 j).1 = f.2.2.1.1.cls))
    (hn : narrow (kx_ty ci j) (kx_cv f.2.1 v) = kx_cv f.2.1 v) (hfit : fits (kx_ty ci j) (kx_cv f.2.1 v) = true) (hT : h'.2.2.2 = h.2.2.2) (hm : ∀ (ty : FieldType) (b k : Nat), b ≠ a → kx_mv h' ty b k = kx_mv h ty b k)
    (hm2 : ∀ k, kx_mv h' (kx_ty ci k) a k = if k = j then v else kx_mv h (kx_ty ci k) a k)
    (hd : decode f.2.2.1.2.1 pc = .ok (.putfield idx, 3)) (k : kx_X f cells slots (pc + 3) lv st h') : kx_X f cells slots pc lv (v :: .ref a :: st) h := by
  intro p e s m args below meth c C H locs ls hR hL hl
  obtain ⟨r, ref, hc, hj, hlk, hsm⟩ := hf
  obtain ⟨cell, q1, q2, q3, q4⟩ := (hR.2.2.2.2 a).1 ci r hk hc
  obtain ⟨hx, hb, -, -, hown, hts, -, hnm, hK⟩ := id C
  have hap := kx_apart hts hK hc
  obtain ⟨hS, hfc, kC, hkC, hkind⟩ := hK.1.1 ci _ hc
  obtain ⟨cf, kf, fi, fd, hi, hsl⟩ := hS j hj
  have hcw := kx_cw ci r hc
  have hst := (u_facts hfc hkC (u_lays hts hcw.1 hj) hi).1
  have hsame := kx_FL.same hts hsm _ hi
  have hlay := hts _ (hcw.1 _ (u_in_lay hj))
  have hd2 := hcw.2.1 j hj
  have hbase : f.2.1.2.2.1 ≤ kx_ad f.2.1 a := by unfold kx_ad; rw [if_pos ha]; omega
  have goal : ∀ H' : Heap, H'[kx_ad f.2.1 a]? = some (cell.setSlot fd.slot (kx_cv f.2.1 v)) → H'.size = H.size → (∀ q : Nat, q ≠ kx_ad f.2.1 a → H'[q]? = H[q]?) → kx_Rel f.2.1 h' H' := by
    intro H' e1 e2 e3
    refine hR.one hT ha e2 e3 hm ⟨fun ci' r' hk' hc' => ?_, fun hk' => ?_⟩
    · rw [hT] at hk'
      have hci : ci' = ci := by omega
      subst hci
      cases hc.symm.trans hc'
      rw [hsl] at e1
      refine t_OB.to (V := updV (fun j => kx_cv f.2.1 (kx_mv h (kx_ty ci' j) a j)) j (kx_cv f.2.1 v)) ⟨_, e1, q2, q3, t_set q4 hap hj (kx_cv f.2.1 v)⟩ (fun j' _ => ?_)
      rw [hm2 j']
      unfold updV
      split <;> rfl
    · rw [hT] at hk'
      have : ci < kx_cl.length := (List.getElem?_eq_some_iff.mp hc).1
      have h15 : kx_cl.length = 15 := rfl
      omega
  have hL' : ∀ q ∈ locs ++ [(⟨kx_ad f.2.1 a, fd.slot⟩ : Loc)], f.2.1.2.2.1 ≤ q.base := by
    intro q hq
    rcases List.mem_append.mp hq with hq | hq
    · exact hL q hq
    · rw [List.mem_singleton.mp hq]; exact hbase
  have hlt : fd.slot < cell.slots.size := by rw [hsl]; exact k2_hasslot (q4 j hj)
  unfold u_lay at hlay
  rcases hfin with hfin | ⟨hin, hfin⟩
  · rw [if_neg (by rw [hfin r hc]; decide)] at hlay
    have h6 := u_store hfc hkC hkind hlay hi hd2 hn hfit
    rcases hlk with hlk | ⟨host, hlk⟩
    · exact W.putK hx hb (f := fd) ⟨hown, hts _ hlk, ⟨_, _, _, hsame⟩, hst⟩ (by rw [q2]; exact h6) q1 q3 hlt rfl rfl hd fun H' e1 e2 e3 => k p e s m args below meth c C H' _ ls (goal H' e1 e2 e3) hL' hl
    · exact va_WputK hx hb (f := fd) hown (va_Nw.use rfl (hK.2.2.1 _ hlk)) hsame hst (by rw [q2]; exact h6) q1 q3 hlt rfl rfl hd fun H' e1 e2 e3 => k p e s m args below meth c C H' _ ls (goal H' e1 e2 e3) hL' hl
  · obtain ⟨hfin1, hdecl⟩ := hfin r hc
    rw [if_pos hfin1] at hlay
    have hcf : m.cls = cf := by
      obtain ⟨_, _, c', _, _, _, -, -, hf', -, -, -, hown2, -⟩ := Cond.laysFinal_spec hlay
      have e1 : c' = cf := by have := hi.symm.trans hf'; simp at this; exact this.1.symm
      rw [hdecl] at hown2
      rw [← e1]; exact Option.some.inj (hown.symm.trans hown2)
    have h6 := u_fits hfc hkC hkind (Or.inr hlay) hi hd2 hn hfit
    rcases hlk with hlk | ⟨host, hlk⟩
    · exact W.putFinK hx hb hown (hts _ hlk) hsame hst hcf (hnm.trans hin) (by rw [q2]; exact h6) q1 q3 hlt rfl rfl hd fun H' e1 e2 e3 => k p e s m args below meth c C H' _ ls (goal H' e1 e2 e3) hL' hl
    · refine va_Wputf hx hb hown (va_Nw.use rfl (hK.2.2.1 _ hlk)) hsame hst (Or.inr ⟨hcf, hnm.trans hin⟩) q1 (by rw [q3]; exact fun h => by cases h) hlt h6.1 (by rw [q2, q3]; exact h6.2) rfl rfl hd ?_
      have hlt2 : kx_ad f.2.1 a < H.size := (Array.getElem?_eq_some_iff.mp q1).1
      exact k p e s m args below meth c C _ _ ls (goal _ (by simp [Array.getElem?_setIfInBounds, hlt2]) (by simp) (fun q hq => by simp [Array.getElem?_setIfInBounds, Ne.symm hq])) hL' hl
/-- may the field be written here -/
def kx_wr (μ : kx_M) (ci j : Nat) : Bool := match kx_cl[ci]? with
  | some r => !(r.2.1 j).2.2.2 || (μ.1.name == "<init>" && (r.2.1 j).1 == μ.1.cls)
  | none => false
theorem kx_wr_spec {μ : kx_M} {ci j : Nat} (hw : kx_wr μ ci j = true) : (∀ r, kx_cl[ci]? = some r → (r.2.1 j).2.2.2 = false) ∨ (μ.1.name = "<init>" ∧ ∀ r, kx_cl[ci]? = some r → (r.2.1 j).2.2.2 = true ∧ (r.2.1 j).1 = μ.1.cls) := by
  unfold kx_wr at hw
  split at hw
  next r hr =>
    by_cases hf : (r.2.1 j).2.2.2 = true
    · rw [hf] at hw
      simp at hw
      exact Or.inr ⟨hw.1, fun r' h' => by cases hr.symm.trans h'; exact ⟨hf, hw.2⟩⟩
    · exact Or.inl (fun r' h' => by cases hr.symm.trans h'; simpa using hf)
  next => cases hw
theorem kx_putI {a idx ci j : Nat} {v : Int32} (hf : kx_FL f.2.2.1.1.cls idx ci j) (hk : (h.2.2.2.1 a).1 = ci + 1) (ha : a < 1000000) (hw : kx_wr f.2.2.1 ci j = true) (hty : kx_ty ci j = .int) (hd : decode f.2.2.1.2.1 pc = .ok (.putfield idx, 3)) (k : kx_X f cells slots (pc + 3) lv st (kx_setI h a j v)) : kx_X f cells slots pc lv (.int v :: .ref a :: st) h := by
  refine kx_putf (h' := kx_setI h a j v) hf hk ha (kx_wr_spec hw) (by rw [hty]; rfl) (by rw [hty]; rfl) rfl (fun _ _ _ hb => kx_mv_setI hb) (fun k9 => ?_) hd k
  by_cases hkj : k9 = j
  · subst hkj
    rw [if_pos rfl, hty]
    simp [kx_mv, kx_setI, kx_up_at]
  · rw [if_neg hkj]
    unfold kx_mv kx_setI
    split <;> simp [kx_up_at, hkj]
theorem kx_putL {a idx ci j : Nat} {v : Int64} (hf : kx_FL f.2.2.1.1.cls idx ci j) (hk : (h.2.2.2.1 a).1 = ci + 1) (ha : a < 1000000) (hw : kx_wr f.2.2.1 ci j = true) (hty : kx_ty ci j = .long) (hd : decode f.2.2.1.2.1 pc = .ok (.putfield idx, 3)) (k : kx_X f cells slots (pc + 3) lv st (kx_setL h a j v)) : kx_X f cells slots pc lv (.long v :: .ref a :: st) h := by
  refine kx_putf (h' := kx_setL h a j v) hf hk ha (kx_wr_spec hw) (by rw [hty]; rfl) (by rw [hty]; rfl) rfl (fun _ _ _ hb => kx_mv_setL hb) (fun k9 => ?_) hd k
  by_cases hkj : k9 = j
  · subst hkj
    rw [if_pos rfl, hty]
    simp [kx_mv, kx_setL, kx_up_at]
  · rw [if_neg hkj]
    unfold kx_mv kx_setL
    split <;> simp [kx_up_at, hkj]
theorem kx_putR {a idx ci j : Nat} {v : Option Nat} (hf : kx_FL f.2.2.1.1.cls idx ci j) (hk : (h.2.2.2.1 a).1 = ci + 1) (ha : a < 1000000) (hw : kx_wr f.2.2.1 ci j = true) (hty : (kx_ty ci j).isReference = true) (hd : decode f.2.2.1.2.1 pc = .ok (.putfield idx, 3)) (k : kx_X f cells slots (pc + 3) lv st (kx_setR h a j v)) : kx_X f cells slots pc lv (kx_rf v :: .ref a :: st) h := by
  have hty' : (∃ n, kx_ty ci j = .object n) ∨ ∃ t, kx_ty ci j = .array t := by
    revert hty
    cases kx_ty ci j <;> simp [FieldType.isReference]
  refine kx_putf (h' := kx_setR h a j v) hf hk ha (kx_wr_spec hw) ?_ ?_ rfl (fun _ _ _ hb => kx_mv_setR hb) (fun k9 => ?_) hd k
  · rcases hty' with ⟨n, e⟩ | ⟨t, e⟩ <;> rw [e] <;> cases v <;> rfl
  · rcases hty' with ⟨n, e⟩ | ⟨t, e⟩ <;> rw [e] <;> cases v <;> rfl
  · by_cases hkj : k9 = j
    · subst hkj
      rw [if_pos rfl]
      rcases hty' with ⟨n, e⟩ | ⟨t, e⟩ <;> rw [e] <;> simp [kx_mv, kx_setR, kx_up_at]
    · rw [if_neg hkj]
      unfold kx_mv kx_setR
      split <;> simp [kx_up_at, hkj]
end KXH
