/-! building: People -/
theorem kx_AOA {g : kx_G} {U : State} (hE : kx_E g U) : ∃ (comp c : ClassId) (k : Class), U.vm.findClass "[I" = some comp ∧ U.vm.findClass "[[I" = some c ∧ U.vm.classes[c]? = some k ∧ k.kind = .array comp (.array .int) := by
  obtain ⟨s0, b, e1, e2, hW, hn, hg, ho, -⟩ := hE
  have h : (Cond.arrayOver (.array .int)).holds #[Value.ref b] s0 none s0 [] = true := hg _ (List.mem_append_right _ (List.mem_of_getElem? (i := 162) (by decide +kernel)))
  simp only [Cond.holds, Cond.value, beq_iff_eq] at h
  have en : (FieldType.array .int).toString = "[I" := by decide +kernel
  have en2 : "[" ++ (FieldType.array .int).toString = "[[I" := by decide +kernel
  rw [en] at h
  cases hc : s0.vm.findClass "[I" with
  | none => simp [hc] at h
  | some comp =>
    simp only [hc, Option.bind_some, Option.bind_eq_some_iff, Option.map_eq_some_iff] at h
    obtain ⟨c, hi, k, hk, hb⟩ := h
    obtain ⟨hlt, hp, -⟩ := Array.findIdx?_eq_some_iff_getElem.mp hi
    have hkk : s0.vm.classes[c] = k := (Array.getElem?_eq_some_iff.mp hk).2
    rw [hkk] at hp
    obtain ⟨k', hk', he⟩ := hW.alike.2.2 _ _ hk
    cases hkind : k.kind with
    | array component ty =>
      rw [hkind] at hb hp
      simp at hb hp
      exact ⟨comp, c, k', by rw [hW.alike.findClass]; exact hc, by rw [hW.alike.findClass]; exact hb.2, hk', by rw [he, hkind, hp, hb.1]⟩
    | _ => rw [hkind] at hb; simp at hb
theorem kx_Rel.newA {g : kx_G} {h : kx_Mem} {H : Heap} {kd len : Nat} {dv : Value} (hR : kx_Rel g h H) (hN : h.2.2.2.2 < 1000000) (hkd : 50 ≤ kd) (hdv : ∀ j, kx_cv g (kx_mv (kx_new h kd len) (kx_ak kd) h.2.2.2.2 j) = dv) : kx_Rel g (kx_new h kd len) (H.push { cls := g.2.1 kd, slots := Array.replicate len dv, vm := .none }) := by
  have had : kx_ad g h.2.2.2.2 = H.size := by unfold kx_ad; rw [if_pos hN, hR.1]
  refine hR.new hN (by rw [Array.size_push]) (fun q hq => by rw [Array.getElem?_push]; rw [if_neg (by omega)]) ⟨fun ci' r' hk' hc' => ?_, fun hk' => ?_⟩
  · have hk2 : ((if h.2.2.2.2 = h.2.2.2.2 then (kd, len) else h.2.2.2.1 h.2.2.2.2) : Nat × Nat).1 = ci' + 1 := hk'
    rw [if_pos rfl] at hk2
    have : ci' < kx_cl.length := (List.getElem?_eq_some_iff.mp hc').1
    have h15 : kx_cl.length = 15 := rfl
    simp at hk2
    omega
  · have ht : (kx_new h kd len).2.2.2.1 h.2.2.2.2 = (kd, len) := by show (if h.2.2.2.2 = h.2.2.2.2 then (kd, len) else _) = _; rw [if_pos rfl]
    rw [ht, had, Array.getElem?_push_size, arrV_new]
    congr 2
    funext j
    exact (hdv j).symm
theorem kx_Rel.setC {g : kx_G} {h : kx_Mem} {H : Heap} {a i b : Nat} {cell : Cell} (hR : kx_Rel g h H) (hk : (h.2.2.2.1 a).1 = 56) (ha : a < 1000000) (hcell : H[kx_ad g a]? = some cell) : kx_Rel g (kx_setR h a i (some b)) (H.setIfInBounds (kx_ad g a) (cell.setSlot i (.ref (kx_ad g b)))) := by
  have e := kx_at.arr hR hk (by decide)
  have ec : cell = arrV (g.2.1 56) (h.2.2.2.1 a).2 (fun j => kx_cv g (kx_mv h (kx_ak 56) a j)) := Option.some.inj (hcell.symm.trans e)
  have hl : kx_ad g a < H.size := (Array.getElem?_eq_some_iff.mp hcell).1
  refine hR.put (k := 56) (i := i) (v := .ref b) hk (by decide) ha rfl (fun _ _ _ hb => kx_mv_setR hb) (fun j => ?_) ?_ (by simp) (fun q hq => by simp [Array.getElem?_setIfInBounds, Ne.symm hq])
  · by_cases hj : j = i
    · subst hj
      simp [kx_mv, kx_ak, kx_setR, kx_up_at, kx_rf]
    · simp [kx_mv, kx_ak, kx_setR, kx_up_at, hj]
  · rw [← ec]
    simp [Array.getElem?_setIfInBounds, hl, kx_cv]
theorem kx_multiB {f : kx_F} {cells slots pc : Nat} {lv : List (Option Value)} {st : List Value} {h : kx_Mem} {E : Nat → Nat → Int32 → Prop} {R T : List (Nat × Nat × Nat)} {L : List Nat} {N N1 : Nat} (hB : Bd E R T L N h) (h1 : N + 4 = N1) (hcl : f.2.2.1.1.cls = "TreatyClaims$People") (hN : N + 4 < 1000000) (hcells : cells + 4 ≤ f.2.2.2.2.1) (hslots : slots + 183 ≤ f.2.2.2.2.2.1) (hd : decode f.2.2.1.2.1 pc = .ok (.multianewarray 34 2, 4))
    (k : ∀ h', Bd E ((N, 2, N + 3) :: (N, 1, N + 2) :: (N, 0, N + 1) :: R) ((N + 3, 50, 60) :: (N + 2, 50, 60) :: (N + 1, 50, 60) :: (N, 56, 3) :: T) L N1 h' → kx_X f (cells + 4) (slots + 183) (pc + 4) lv (.ref N :: st) h') : kx_X f cells slots pc lv (.int 60 :: .int 3 :: st) h := by
  intro p e s m args below meth c C H locs ls hR hL hl
  subst h1
  have eN : h.2.2.2.2 = N := hB.1
  subst eN
  obtain ⟨hx, hb, -, -, hown, hts, -, hnm, hK⟩ := id C
  rw [hcl] at hown
  obtain ⟨comp, cA, kA, f1, f2, f3, f4⟩ := kx_AOA hK.2.2.2
  have q50 : s.vm.findClass "[I" = some (f.2.1.2.1 50) := va_nm_int (hK.2.1 50 (by decide) (by decide)).2
  have q56 : s.vm.findClass "[[I" = some (f.2.1.2.1 56) := by
    have := (hK.2.1 56 (by decide) (by decide)).2
    exact this
  cases q50.symm.trans f1
  cases q56.symm.trans f2
  obtain ⟨-, kC, hkC, cc, hkindC⟩ := (hK.2.1 50 (by decide) (by decide)).1 0 (fun _ => .int 0)
  intro T0 hT X
  obtain ⟨vm₁, X', step⟩ := ka_step (index := 34) X hx hown (hts _ (kx_in 161 (by decide +kernel) rfl)) f2 f3 f4 hkC hkindC (g := F0 m pc ls ((Value.int 60 :: .int 3 :: st).map (kx_cv f.2.1))) rfl (by rw [hb]; exact hd) (rest := st.map (kx_cv f.2.1)) rfl hcells hslots
  have hS : (T0.setVm vm₁).heap = H := hT
  have hsz : H.size = f.2.1.2.2.1 + h.2.2.2.2 := hR.1
  have ad : ∀ q, q ≤ 3 → kx_ad f.2.1 (h.2.2.2.2 + q) = H.size + q := fun q hq => by unfold kx_ad; rw [if_pos (by omega), hsz]; omega
  have ad0 : kx_ad f.2.1 h.2.2.2.2 = H.size := ad 0 (by decide)
  obtain ⟨z0, z1, z2, z3⟩ := @ka_sz (T0.setVm vm₁) (f.2.1.2.1 56) (f.2.1.2.1 50)
  obtain ⟨a0, a1, a2⟩ := @ka_at (T0.setVm vm₁) (f.2.1.2.1 56) (f.2.1.2.1 50)
  rw [hS] at z0 z1 z2 z3 a0 a1 a2
  have e0 : (ka_U0 (T0.setVm vm₁) (f.2.1.2.1 56)).heap = H.push (ka_o (f.2.1.2.1 56)) := by show (T0.setVm vm₁).heap.push _ = _; rw [hS]
  have R0 : kx_Rel f.2.1 (kx_new h 56 3) (ka_U0 (T0.setVm vm₁) (f.2.1.2.1 56)).heap := by
    rw [e0]
    exact hR.newA (by omega) (by decide) (fun j => kx_mv_new0 f.2.1 (by decide))
  have n0 : ∀ b : kx_Mem, True := fun _ => trivial
  have P0 : kx_Rel f.2.1 (kx_new (kx_new h 56 3) 50 60) ((ka_U0 (T0.setVm vm₁) (f.2.1.2.1 56)).pushCell (ka_i (f.2.1.2.1 50))).heap := R0.newA (show h.2.2.2.2 + 1 < 1000000 by omega) (by decide) (fun j => kx_mv_new0 f.2.1 (by decide))
  have k0 : ((kx_new (kx_new h 56 3) 50 60).2.2.2.1 h.2.2.2.2).1 = 56 := by simp [kx_new]
  have R1 : kx_Rel f.2.1 (kx_setR (kx_new (kx_new h 56 3) 50 60) h.2.2.2.2 0 (some (h.2.2.2.2 + 1))) (ka_U1 (T0.setVm vm₁) (f.2.1.2.1 56) (f.2.1.2.1 50)).heap := by
    have := P0.setC (i := 0) (b := h.2.2.2.2 + 1) k0 (by omega) (cell := ka_o (f.2.1.2.1 56)) (by rw [ad0]; exact (State.heap_pushCell_of_lt (s := ka_U0 (T0.setVm vm₁) (f.2.1.2.1 56)) (c := ka_i (f.2.1.2.1 50)) (a := H.size) (by rw [z0]; exact Nat.lt_add_of_pos_right (by decide))).trans a0)
    rw [ad0, ad 1 (by decide), ← z0, ← hS] at this
    exact this
  have P1 := R1.newA (kd := 50) (len := 60) (dv := .int 0) (show h.2.2.2.2 + 2 < 1000000 by omega) (by decide) (fun j => kx_mv_new0 f.2.1 (by decide))
  have k1 : ((kx_new (kx_setR (kx_new (kx_new h 56 3) 50 60) h.2.2.2.2 0 (some (h.2.2.2.2 + 1))) 50 60).2.2.2.1 h.2.2.2.2).1 = 56 := by simp [kx_new, kx_setR]; rw [if_neg (by omega)]
  have R2 : kx_Rel f.2.1 (kx_setR (kx_new (kx_setR (kx_new (kx_new h 56 3) 50 60) h.2.2.2.2 0 (some (h.2.2.2.2 + 1))) 50 60) h.2.2.2.2 1 (some (h.2.2.2.2 + 2))) (ka_U2 (T0.setVm vm₁) (f.2.1.2.1 56) (f.2.1.2.1 50)).heap := by
    have := P1.setC (i := 1) (b := h.2.2.2.2 + 2) k1 (by omega) (cell := ka_c1 (T0.setVm vm₁) (f.2.1.2.1 56)) (by rw [ad0]; exact (State.heap_pushCell_of_lt (s := ka_U1 (T0.setVm vm₁) (f.2.1.2.1 56) (f.2.1.2.1 50)) (c := ka_i (f.2.1.2.1 50)) (a := H.size) (by rw [z1]; exact Nat.lt_add_of_pos_right (by decide))).trans a1)
    rw [ad0, ad 2 (by decide), ← z1, ← hS] at this
    exact this
  have P2 := R2.newA (kd := 50) (len := 60) (dv := .int 0) (show h.2.2.2.2 + 3 < 1000000 by omega) (by decide) (fun j => kx_mv_new0 f.2.1 (by decide))
  have k2 : ((kx_new (kx_setR (kx_new (kx_setR (kx_new (kx_new h 56 3) 50 60) h.2.2.2.2 0 (some (h.2.2.2.2 + 1))) 50 60) h.2.2.2.2 1 (some (h.2.2.2.2 + 2))) 50 60).2.2.2.1 h.2.2.2.2).1 = 56 := by simp [kx_new, kx_setR]; rw [if_neg (by omega), if_neg (by omega)]
  have R3 : kx_Rel f.2.1 (kx_setR (kx_new (kx_setR (kx_new (kx_setR (kx_new (kx_new h 56 3) 50 60) h.2.2.2.2 0 (some (h.2.2.2.2 + 1))) 50 60) h.2.2.2.2 1 (some (h.2.2.2.2 + 2))) 50 60) h.2.2.2.2 2 (some (h.2.2.2.2 + 3))) (ka_U3 (T0.setVm vm₁) (f.2.1.2.1 56) (f.2.1.2.1 50)).heap := by
    have := P2.setC (i := 2) (b := h.2.2.2.2 + 3) k2 (by omega) (cell := ka_c2 (T0.setVm vm₁) (f.2.1.2.1 56) (f.2.1.2.1 50)) (by rw [ad0]; exact (State.heap_pushCell_of_lt (s := ka_U2 (T0.setVm vm₁) (f.2.1.2.1 56) (f.2.1.2.1 50)) (c := ka_i (f.2.1.2.1 50)) (a := H.size) (by rw [z2]; exact Nat.lt_add_of_pos_right (by decide))).trans a2)
    rw [ad0, ad 3 (by decide), ← z2, ← hS] at this
    exact this
  have hlt := hB.2.1.1
  have nn : ∀ j, ∀ q ∈ R, ¬ (q.1 = h.2.2.2.2 ∧ q.2.1 = j) := fun j q hq z => Nat.ne_of_lt (hlt q hq) z.1
  have hB9 := ((((((hB.new (kd := 56) (len := 3)).new (kd := 50) (len := 60)).setR (a := h.2.2.2.2) (j := 0) (v := h.2.2.2.2 + 1) (by omega) (nn 0)).new (kd := 50) (len := 60)).setR (a := h.2.2.2.2) (j := 1) (v := h.2.2.2.2 + 2) (by omega) (nr_cons (by omega) (nn 1))).new (kd := 50) (len := 60)).setR (a := h.2.2.2.2) (j := 2) (v := h.2.2.2.2 + 3) (by omega) (nr_cons (by omega) (nr_cons (by omega) (nn 2)))
  have hbase : f.2.1.2.2.1 ≤ T0.heap.size := by rw [hT]; omega
  obtain ⟨t, b1, b2⟩ := k _ hB9 p e s m args below meth c C _ _ ls R3 (fun q hq => by
    simp only [List.mem_append, List.mem_singleton] at hq
    rcases hq with ((hq | hq) | hq) | hq
    · exact hL q hq
    · rw [hq]; exact hbase
    · rw [hq]; exact hbase
    · rw [hq]; exact hbase) hl _ rfl X'
  refine ⟨t, step t ?_, b2⟩
  rw [List.map_cons, show kx_cv f.2.1 (.ref h.2.2.2.2) = .ref T0.heap.size from congrArg Value.ref (ad0.trans (by rw [hT]))] at b1
  exact b1
theorem x_Pe_init {l : Launch} {g : kx_G} {d : Nat} {h : kx_Mem} (E : Nat → Nat → Int32 → Prop) (R T : List (Nat × Nat × Nat)) (L : List Nat) (N o : Nat) (hB : Bd E R T L N h) (hmo : (o, 6, 0) ∈ T) (hno : ∀ q ∈ R, q.1 ≠ o) (hN : N < 900) : kx_Sp l g m_Pe_init [.ref o] h (d + 1) 15 1486 (fun v h' => v = none ∧ Bd E ((o, 10, N + 11) :: (N + 11, 2, N + 14) :: (N + 11, 1, N + 13) :: (N + 11, 0, N + 12) :: (o, 9, N + 7) :: (N + 7, 2, N + 10) :: (N + 7, 1, N + 9) :: (N + 7, 0, N + 8) :: (o, 8, N + 6) :: (o, 7, N + 5) :: (o, 6, N + 4) :: (o, 5, N + 3) :: (o, 4, N + 2) :: (o, 2, N + 1) :: (o, 1, N) :: R) ((N + 14, 50, 60) :: (N + 13, 50, 60) :: (N + 12, 50, 60) :: (N + 11, 56, 3) :: (N + 10, 50, 60) :: (N + 9, 50, 60) :: (N + 8, 50, 60) :: (N + 7, 56, 3) :: (N + 6, 50, 200) :: (N + 5, 50, 200) :: (N + 4, 50, 200) :: (N + 3, 50, 200) :: (N + 2, 50, 200) :: (N + 1, 50, 60) :: (N, 53, 60) :: T) L (N + 15) h') := by
  have hoN : o < N := hB.2.1.2 _ hmo
  refine kx_enter_e (lv := [_]) (by decide +kernel) (Nat.le_of_ble_eq_true rfl) rfl ?_
  refine kx_aload_n (pc := 0) (kx_dd d_Pe_init 0 rfl) rfl rfl ?_
  refine kx_objInit (pc := 1) oi_Pe oi_2 oi_3 (kx_dd d_Pe_init 1 rfl) (Nat.le_of_ble_eq_true rfl) (Nat.le_of_ble_eq_true rfl) ?_
  refine kx_aload_n (pc := 4) (kx_dd d_Pe_init 2 rfl) rfl rfl ?_
  refine kx_bipush (pc := 5) (v := 60) (kx_dd d_Pe_init 3 rfl) rfl ?_
  refine kx_fld (pc := 7) (N1 := N + 1) (kd := 53) (N' := 60) hB rfl (hmo) (fun q hq z => hno q hq z.1) (by omega) ⟨by decide, by decide⟩ rfl wa_53 (by decide) (by decide) (by decide) (Nat.le_of_ble_eq_true rfl) (Nat.le_of_ble_eq_true rfl) (kx_dd d_Pe_init 4 rfl) fl_Pe_11 rfl rfl (kx_dd d_Pe_init 5 rfl) (fun h hB => ?_)
  refine kx_aload_n (pc := 12) (kx_dd d_Pe_init 6 rfl) rfl rfl ?_
  refine kx_bipush (pc := 13) (v := 60) (kx_dd d_Pe_init 7 rfl) rfl ?_
  refine kx_fld (pc := 15) (N1 := N + 2) (kd := 50) (N' := 60) hB rfl (List.mem_cons_of_mem _ (hmo)) (nr_cons (by omega) (fun q hq z => hno q hq z.1)) (by omega) ⟨by decide, by decide⟩ rfl wa_50 (by decide) (by decide) (by decide) (Nat.le_of_ble_eq_true rfl) (Nat.le_of_ble_eq_true rfl) (kx_dd d_Pe_init 8 rfl) fl_Pe_15 rfl rfl (kx_dd d_Pe_init 9 rfl) (fun h hB => ?_)
  refine kx_aload_n (pc := 20) (kx_dd d_Pe_init 10 rfl) rfl rfl ?_
  refine kx_sipush (pc := 21) (v := 200) (kx_dd d_Pe_init 11 rfl) rfl ?_
  refine kx_fld (pc := 24) (N1 := N + 3) (kd := 50) (N' := 200) hB rfl (List.mem_cons_of_mem _ (List.mem_cons_of_mem _ (hmo))) (nr_cons (by omega) (nr_cons (by omega) (fun q hq z => hno q hq z.1))) (by omega) ⟨by decide, by decide⟩ rfl wa_50 (by decide) (by decide) (by decide) (Nat.le_of_ble_eq_true rfl) (Nat.le_of_ble_eq_true rfl) (kx_dd d_Pe_init 12 rfl) fl_Pe_19 rfl rfl (kx_dd d_Pe_init 13 rfl) (fun h hB => ?_)
  refine kx_aload_n (pc := 29) (kx_dd d_Pe_init 14 rfl) rfl rfl ?_
  refine kx_sipush (pc := 30) (v := 200) (kx_dd d_Pe_init 15 rfl) rfl ?_
  refine kx_fld (pc := 33) (N1 := N + 4) (kd := 50) (N' := 200) hB rfl (List.mem_cons_of_mem _ (List.mem_cons_of_mem _ (List.mem_cons_of_mem _ (hmo)))) (nr_cons (by omega) (nr_cons (by omega) (nr_cons (by omega) (fun q hq z => hno q hq z.1)))) (by omega) ⟨by decide, by decide⟩ rfl wa_50 (by decide) (by decide) (by decide) (Nat.le_of_ble_eq_true rfl) (Nat.le_of_ble_eq_true rfl) (kx_dd d_Pe_init 16 rfl) fl_Pe_22 rfl rfl (kx_dd d_Pe_init 17 rfl) (fun h hB => ?_)
  refine kx_aload_n (pc := 38) (kx_dd d_Pe_init 18 rfl) rfl rfl ?_
  refine kx_sipush (pc := 39) (v := 200) (kx_dd d_Pe_init 19 rfl) rfl ?_
  refine kx_fld (pc := 42) (N1 := N + 5) (kd := 50) (N' := 200) hB rfl (List.mem_cons_of_mem _ (List.mem_cons_of_mem _ (List.mem_cons_of_mem _ (List.mem_cons_of_mem _ (hmo))))) (nr_cons (by omega) (nr_cons (by omega) (nr_cons (by omega) (nr_cons (by omega) (fun q hq z => hno q hq z.1))))) (by omega) ⟨by decide, by decide⟩ rfl wa_50 (by decide) (by decide) (by decide) (Nat.le_of_ble_eq_true rfl) (Nat.le_of_ble_eq_true rfl) (kx_dd d_Pe_init 20 rfl) fl_Pe_25 rfl rfl (kx_dd d_Pe_init 21 rfl) (fun h hB => ?_)
  refine kx_aload_n (pc := 47) (kx_dd d_Pe_init 22 rfl) rfl rfl ?_
  refine kx_sipush (pc := 48) (v := 200) (kx_dd d_Pe_init 23 rfl) rfl ?_
  refine kx_fld (pc := 51) (N1 := N + 6) (kd := 50) (N' := 200) hB rfl (List.mem_cons_of_mem _ (List.mem_cons_of_mem _ (List.mem_cons_of_mem _ (List.mem_cons_of_mem _ (List.mem_cons_of_mem _ (hmo)))))) (nr_cons (by omega) (nr_cons (by omega) (nr_cons (by omega) (nr_cons (by omega) (nr_cons (by omega) (fun q hq z => hno q hq z.1)))))) (by omega) ⟨by decide, by decide⟩ rfl wa_50 (by decide) (by decide) (by decide) (Nat.le_of_ble_eq_true rfl) (Nat.le_of_ble_eq_true rfl) (kx_dd d_Pe_init 24 rfl) fl_Pe_28 rfl rfl (kx_dd d_Pe_init 25 rfl) (fun h hB => ?_)
  refine kx_aload_n (pc := 56) (kx_dd d_Pe_init 26 rfl) rfl rfl ?_
  refine kx_sipush (pc := 57) (v := 200) (kx_dd d_Pe_init 27 rfl) rfl ?_
  refine kx_fld (pc := 60) (N1 := N + 7) (kd := 50) (N' := 200) hB rfl (List.mem_cons_of_mem _ (List.mem_cons_of_mem _ (List.mem_cons_of_mem _ (List.mem_cons_of_mem _ (List.mem_cons_of_mem _ (List.mem_cons_of_mem _ (hmo))))))) (nr_cons (by omega) (nr_cons (by omega) (nr_cons (by omega) (nr_cons (by omega) (nr_cons (by omega) (nr_cons (by omega) (fun q hq z => hno q hq z.1))))))) (by omega) ⟨by decide, by decide⟩ rfl wa_50 (by decide) (by decide) (by decide) (Nat.le_of_ble_eq_true rfl) (Nat.le_of_ble_eq_true rfl) (kx_dd d_Pe_init 28 rfl) fl_Pe_31 rfl rfl (kx_dd d_Pe_init 29 rfl) (fun h hB => ?_)
  refine kx_aload_n (pc := 65) (kx_dd d_Pe_init 30 rfl) rfl rfl ?_
  refine kx_iconst (pc := 66) (v := 3) (kx_dd d_Pe_init 31 rfl) rfl ?_
  refine kx_bipush (pc := 67) (v := 60) (kx_dd d_Pe_init 32 rfl) rfl ?_
  refine kx_multiB (pc := 69) (N1 := N + 11) hB rfl rfl (by omega) (Nat.le_of_ble_eq_true rfl) (Nat.le_of_ble_eq_true rfl) (kx_dd d_Pe_init 33 rfl) (fun h hB => ?_)
  refine kx_putB (pc := 73) (v := N + 7) hB (List.mem_cons_of_mem _ (List.mem_cons_of_mem _ (List.mem_cons_of_mem _ (List.mem_cons_of_mem _ (List.mem_cons_of_mem _ (List.mem_cons_of_mem _ (List.mem_cons_of_mem _ (List.mem_cons_of_mem _ (List.mem_cons_of_mem _ (List.mem_cons_of_mem _ (List.mem_cons_of_mem _ (hmo)))))))))))) (nr_cons (by omega) (nr_cons (by omega) (nr_cons (by omega) (nr_cons (by omega) (nr_cons (by omega) (nr_cons (by omega) (nr_cons (by omega) (nr_cons (by omega) (nr_cons (by omega) (nr_cons (by omega) (fun q hq z => hno q hq z.1))))))))))) (by omega) fl_Pe_36 rfl rfl (kx_dd d_Pe_init 34 rfl) (fun h hB => ?_)
  refine kx_aload_n (pc := 76) (kx_dd d_Pe_init 35 rfl) rfl rfl ?_
  refine kx_iconst (pc := 77) (v := 3) (kx_dd d_Pe_init 36 rfl) rfl ?_
  refine kx_bipush (pc := 78) (v := 60) (kx_dd d_Pe_init 37 rfl) rfl ?_
  refine kx_multiB (pc := 80) (N1 := N + 15) hB rfl rfl (by omega) (Nat.le_of_ble_eq_true rfl) (Nat.le_of_ble_eq_true rfl) (kx_dd d_Pe_init 38 rfl) (fun h hB => ?_)
  refine kx_putB (pc := 84) (v := N + 11) hB (List.mem_cons_of_mem _ (List.mem_cons_of_mem _ (List.mem_cons_of_mem _ (List.mem_cons_of_mem _ (List.mem_cons_of_mem _ (List.mem_cons_of_mem _ (List.mem_cons_of_mem _ (List.mem_cons_of_mem _ (List.mem_cons_of_mem _ (List.mem_cons_of_mem _ (List.mem_cons_of_mem _ (List.mem_cons_of_mem _ (List.mem_cons_of_mem _ (List.mem_cons_of_mem _ (List.mem_cons_of_mem _ (hmo)))))))))))))))) (nr_cons (by omega) (nr_cons (by omega) (nr_cons (by omega) (nr_cons (by omega) (nr_cons (by omega) (nr_cons (by omega) (nr_cons (by omega) (nr_cons (by omega) (nr_cons (by omega) (nr_cons (by omega) (nr_cons (by omega) (nr_cons (by omega) (nr_cons (by omega) (nr_cons (by omega) (fun q hq z => hno q hq z.1))))))))))))))) (by omega) fl_Pe_39 rfl rfl (kx_dd d_Pe_init 39 rfl) (fun h hB => ?_)
  exact kx_vret (pc := 87) rfl (kx_dd d_Pe_init 40 rfl) (Nat.le_of_ble_eq_true rfl) (Nat.le_of_ble_eq_true rfl) ⟨rfl, hB⟩
