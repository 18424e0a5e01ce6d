/-! the start: the world that the law finds, its constructors, whole_start -/
theorem arr_ref {args : Array Value} {s : State} {t : Term} {ty : FieldType} (h : (Cond.arrayOf t ty).holds args s none s [] = true) : ∃ a, t.eval args s none [] s = some (.ref a) := by
  simp only [Cond.holds, Cond.value] at h
  cases hv : t.eval args s none [] s with
  | none => simp [hv] at h
  | some v =>
    cases v with
    | ref a => exact ⟨a, rfl⟩
    | _ => simp [hv] at h
theorem find_nd : ∀ (L : List (Jvm.Term × Nat)), (L.map Prod.snd).Nodup → ∀ q ∈ L, L.find? (fun p => p.2 == q.2) = some q
  | [], _, q, hq => by cases hq
  | p :: L, hn, q, hq => by
    rw [List.map_cons, List.nodup_cons] at hn
    rw [List.find?_cons]
    rcases List.mem_cons.mp hq with rfl | hq
    · simp
    · have hne : p.2 ≠ q.2 := fun e => hn.1 (by rw [e]; exact List.mem_map_of_mem hq)
      rw [show (p.2 == q.2) = false from by simp [hne]]
      exact find_nd L hn.2 q hq
theorem olds_nd : ((kx_olds ++ kx_olds2).map Prod.snd).Nodup := by decide +kernel
def kx_adr (s : State) (b n : Nat) : Nat := match (kx_olds ++ kx_olds2).find? (fun p => p.2 == n) with
  | some q => (match q.1.eval #[Value.ref b] s none [] s with
    | some (.ref a) => a
    | _ => 0)
  | none => b
theorem kx_adr_at {s : State} {b a : Nat} {q : Jvm.Term × Nat} (hq : q ∈ kx_olds ++ kx_olds2) (h : q.1.eval #[Value.ref b] s none [] s = some (.ref a)) : kx_adr s b q.2 = a := by
  unfold kx_adr
  rw [find_nd _ olds_nd q hq]
  simp only [h]
theorem kx_adr_b {s : State} {b : Nat} : kx_adr s b 1000300 = b := by
  have h : (kx_olds ++ kx_olds2).find? (fun p => p.2 == 1000300) = none := by
    rw [List.find?_eq_none]
    have h2 : ((kx_olds ++ kx_olds2).map Prod.snd).all (fun n => n != 1000300) = true := by decide +kernel
    intro p hp
    have := List.all_eq_true.mp h2 p.2 (List.mem_map_of_mem hp)
    simpa using this
  unfold kx_adr
  rw [h]
theorem ev_ex {s : State} {b : Nat} {t : Term} {C : String} (h : (Cond.exactly t C).before #[Value.ref b] s = true) : ∃ a, t.eval #[Value.ref b] s none [] s = some (.ref a) := by
  obtain ⟨a, c, cell, k, h1, -⟩ := Cond.exactly_spec h
  exact ⟨a, h1⟩
theorem stb_ev {s : State} {b : Nat} (hgv : (Jvm.Cond.and given_1 narrow_1).before #[Value.ref b] s = true) (k : Nat) (hk : k < 30) : (∃ q, kx_olds[k]? = some q ∧ ∃ a, q.1.eval #[Value.ref b] s none [] s = some (.ref a)) ∧ ∃ q, kx_olds[30 + k]? = some q ∧ ∃ a, q.1.eval #[Value.ref b] s none [] s = some (.ref a) := by
  have hok := kx_stb_ok k hk
  unfold kx_stbOk at hok
  split at hok
  · obtain ⟨h1, -, h3, -, -, -, h7, h8⟩ := hok
    exact ⟨⟨_, h7, ev_ex (kx_narrow hgv _ h1)⟩, ⟨_, h8, arr_ref (kx_narrow hgv _ h3)⟩⟩
  · exact hok.elim
theorem olds_ev {s : State} {b : Nat} (hgv : (Jvm.Cond.and given_1 narrow_1).before #[Value.ref b] s = true) : ∀ q ∈ kx_olds, ∃ a, q.1.eval #[Value.ref b] s none [] s = some (.ref a) := by
  intro q hq
  obtain ⟨i, hi⟩ := List.getElem?_of_mem hq
  have hlt : i < 61 := (List.getElem?_eq_some_iff.mp hi).1
  by_cases h1 : i < 30
  · obtain ⟨⟨q', e1, e2⟩, -⟩ := stb_ev hgv i h1
    cases Option.some.inj (e1.symm.trans hi)
    exact e2
  · by_cases h2 : i < 60
    · obtain ⟨-, q', e1, e2⟩ := stb_ev hgv (i - 30) (by omega)
      rw [show 30 + (i - 30) = i by omega] at e1
      cases Option.some.inj (e1.symm.trans hi)
      exact e2
    · have h3 : i = 60 := by omega
      subst h3
      have e1 : kx_olds[60]? = some (Jvm.Term.static "java/util/ArrayList" "DEFAULTCAPACITY_EMPTY_ELEMENTDATA" "[Ljava/lang/Object;", 1000201) := rfl
      cases Option.some.inj (e1.symm.trans hi)
      exact ev_ex (C := "[Ljava/lang/Object;") (flat_of_before _ hgv _ (by decide +kernel))
theorem ref_or {s : State} {b : Nat} {t : Term} (h : (Cond.isRef t).before #[Value.ref b] s = true) : t.eval #[Value.ref b] s none [] s = some .null ∨ ∃ a, t.eval #[Value.ref b] s none [] s = some (.ref a) := by
  obtain ⟨v, h1, h2⟩ := Cond.isRef_spec h
  cases v with
  | null => exact Or.inl h1
  | ref a => exact Or.inr ⟨a, h1⟩
  | _ => cases h2
theorem olds2_ev {s : State} {b : Nat} (hgv : (Jvm.Cond.and given_1 narrow_1).before #[Value.ref b] s = true) : ∀ q ∈ kx_olds2, q.1.eval #[Value.ref b] s none [] s = some .null ∨ ∃ a, q.1.eval #[Value.ref b] s none [] s = some (.ref a) := by
  unfold kx_olds2
  exact List.forall_mem_cons.mpr ⟨ref_or (flat_of_before _ hgv _ (by decide +kernel)), List.forall_mem_cons.mpr ⟨ref_or (flat_of_before _ hgv _ (by decide +kernel)), List.forall_mem_cons.mpr ⟨ref_or (flat_of_before _ hgv _ (by decide +kernel)), List.forall_mem_cons.mpr ⟨ref_or (flat_of_before _ hgv _ (by decide +kernel)), fun _ h => absurd h List.not_mem_nil⟩⟩⟩⟩
theorem kx_AOs {s : State} {b : Nat} (h : (Cond.arrayOver (.array .int)).holds #[Value.ref b] s none s [] = true) : ∃ (comp c : ClassId) (k : Class), s.vm.findClass ("[" ++ (FieldType.array .int).toString) = some c ∧ s.vm.classes[c]? = some k ∧ k.kind = .array comp (.array .int) := by
  simp only [Cond.holds, Cond.value, beq_iff_eq] at h
  cases hc : s.vm.findClass (FieldType.array .int).toString with
  | none => simp [hc] at h
  | some comp =>
    simp only [hc, Option.bind_some, Option.bind_eq_some_iff, Option.map_eq_some_iff] at h
    obtain ⟨c, hi, k, hk, hb⟩ := h
    obtain ⟨hlt, hp, -⟩ := Array.findIdx?_eq_some_iff_getElem.mp hi
    have hkk : s.vm.classes[c] = k := (Array.getElem?_eq_some_iff.mp hk).2
    rw [hkk] at hp
    cases hkind : k.kind with
    | array component ty =>
      rw [hkind] at hb hp
      simp at hb hp
      exact ⟨comp, c, k, hb.2, hk, by rw [hkind, hp, hb.1]⟩
    | _ => rw [hkind] at hb; simp at hb
theorem kx_tb {w : Cond} (i : Nat) (h : tables_1[i]? = some w) : w ∈ lw_tbl := List.mem_append_right _ (List.mem_of_getElem? h)
theorem arr_s {s : State} {b : Nat} (hts : ∀ w ∈ lw_tbl, w.before #[Value.ref b] s = true) (k : Nat) : ∃ cA : ClassId, 50 ≤ k → k < 57 → ArrOfT s cA (kx_ak k) ∧ va_RA s cA (kx_ak k) := by
  have pr : ∀ (ty : FieldType) (i : Nat), tables_1[i]? = some (Cond.arrayClass ty) → ∃ cA : ClassId, ArrOfT s cA ty ∧ s.vm.findClass ("[" ++ ty.toString) = some cA := fun ty i hi => by
    obtain ⟨c, k, comp, h1, h2, h3⟩ := Cond.arrayClass_spec (hts _ (kx_tb i hi))
    exact ⟨c, fun n z => ⟨fun k h => (by cases h), k, h2, comp, h3⟩, h1⟩
  have ob : ∀ (C : String) (i : Nat), tables_1[i]? = some (Cond.arrayOver (.object C)) → ∃ cA : ClassId, ArrOfT s cA (.object C) ∧ va_RA s cA (.object C) := fun C i hi => by
    obtain ⟨comp, c, k, h1, h2, h3, h4, h5⟩ := Cond.arrayOver_spec (hts _ (kx_tb i hi))
    exact ⟨c, fun n z => ⟨fun k h => (by cases h), k, h3, comp, h4⟩, k, comp, h3, h4, h1, h5⟩
  by_cases hk : 50 ≤ k ∧ k < 57
  · rcases (show k = 50 ∨ k = 51 ∨ k = 52 ∨ k = 53 ∨ k = 54 ∨ k = 55 ∨ k = 56 by omega) with rfl | rfl | rfl | rfl | rfl | rfl | rfl
    · obtain ⟨c, h1, h2⟩ := pr .int 133 (by decide +kernel)
      exact ⟨c, fun _ _ => ⟨h1, h2⟩⟩
    · obtain ⟨c, h1, h2⟩ := pr .long 134 (by decide +kernel)
      exact ⟨c, fun _ _ => ⟨h1, h2⟩⟩
    · obtain ⟨c, h1, h2⟩ := pr .byte 72 (by decide +kernel)
      exact ⟨c, fun _ _ => ⟨h1, h2⟩⟩
    · obtain ⟨c, h1, h2⟩ := pr .boolean 199 (by decide +kernel)
      exact ⟨c, fun _ _ => ⟨h1, h2⟩⟩
    · obtain ⟨c, h1, h2⟩ := ob "java/lang/Object" 956 (by decide +kernel)
      exact ⟨c, fun _ _ => ⟨h1, h2⟩⟩
    · obtain ⟨c, h1, h2⟩ := ob "TreatyClaims$Rules" 154 (by decide +kernel)
      exact ⟨c, fun _ _ => ⟨h1, h2⟩⟩
    · obtain ⟨comp, c, k, h1, h2, h3⟩ := kx_AOs (hts _ (kx_tb 162 (by decide +kernel)))
      exact ⟨c, fun _ _ => ⟨fun n z => ⟨fun k h => (by cases h), k, h2, comp, h3⟩, h1⟩⟩
  · exact ⟨0, fun h1 h2 => absurd ⟨h1, h2⟩ hk⟩
theorem inst_s : ∀ (k : Nat) (r : vw_C), kx_cl[k]? = some r → Cond.instantiable r.1 r.2.2 ∈ lw_tbl := by
  intro k r h
  match k, h with
  | 0, h => cases h; exact kx_tb 249 (by decide +kernel)
  | 1, h => cases h; exact kx_tb 812 (by decide +kernel)
  | 2, h => cases h; exact kx_tb 243 (by decide +kernel)
  | 3, h => cases h; exact kx_tb 317 (by decide +kernel)
  | 4, h => cases h; exact kx_tb 990 (by decide +kernel)
  | 5, h => cases h; exact kx_tb 156 (by decide +kernel)
  | 6, h => cases h; exact kx_tb 201 (by decide +kernel)
  | 7, h => cases h; exact kx_tb 80 (by decide +kernel)
  | 8, h => cases h; exact kx_tb 74 (by decide +kernel)
  | 9, h => cases h; exact kx_tb 40 (by decide +kernel)
  | 10, h => cases h; exact kx_tb 292 (by decide +kernel)
  | 11, h => cases h; exact kx_tb 220 (by decide +kernel)
  | 12, h => cases h; exact kx_tb 32 (by decide +kernel)
  | 13, h => cases h; exact kx_tb 1525 (by decide +kernel)
  | 14, h => cases h; exact kx_tb 1366 (by decide +kernel)
  | n + 15, h => simp [kx_cl] at h
theorem cls_s {s : State} {b : Nat} (hts : ∀ w ∈ lw_tbl, w.before #[Value.ref b] s = true) (k : Nat) : ∃ q : ClassId × (Nat → Nat), ∀ r, kx_cl[k]? = some r → u_Kn s r.1 r.2.1 r.2.2 q.1 q.2 := by
  by_cases hk : ∃ r, kx_cl[k]? = some r
  · obtain ⟨r, hr⟩ := hk
    obtain ⟨cC, iS, h⟩ := u_known (ws := kx_good) (args := #[Value.ref b]) (fun w hw => hts w (List.mem_filter.mp hw).1) (kx_cw k r hr).1 (hts _ (inst_s k r hr))
    exact ⟨(cC, iS), fun r' h' => by
      cases hr.symm.trans h'
      exact h⟩
  · exact ⟨(0, fun _ => 0), fun r hr => absurd ⟨r, hr⟩ hk⟩
theorem kx_start {s : State} {b : Nat} (hts : ∀ w ∈ lw_tbl, w.before #[Value.ref b] s = true) (hgv : (Jvm.Cond.and given_1 narrow_1).before #[Value.ref b] s = true) : ∃ g : kx_G, kx_K g s ∧ g.2.2.1 = s.heap.size ∧ g.2.2.2.2 = s.heap ∧ kx_ad g 1000300 = b := by
  refine ⟨((fun k => (Classical.choose (cls_s hts k)).1, fun k => (Classical.choose (cls_s hts k)).2), fun k => Classical.choose (arr_s hts k), s.heap.size, kx_adr s b, s.heap), ⟨⟨fun k r hr => Classical.choose_spec (cls_s hts k) r hr, fun k q h => by simp at h⟩, fun k h1 h2 => Classical.choose_spec (arr_s hts k) h1 h2, fun w hw => ?_, s, b, rfl, rfl, State.WarmedH.refl s, hgv, hts, fun q hq => ?_, fun q hq => ?_⟩, rfl, rfl, ?_⟩
  · obtain ⟨i, -, hi⟩ := List.mem_filterMap.mp hw
    have hb := hts w (kx_tb i hi)
    have ho : w.onTables = true := by rcases kx_nw_kind w hw with ⟨a, i, b, n, d, h, rfl⟩ | ⟨a, i, x, h, rfl⟩ | ⟨C, T, rfl⟩ <;> rfl
    exact va_Nw.of ho hb
  · obtain ⟨a, ha⟩ := olds_ev hgv q hq
    rw [ha]
    exact congrArg (fun z => some (Value.ref z)) (kx_adr_at (List.mem_append_left _ hq) ha).symm
  · rcases olds2_ev hgv q hq with h | ⟨a, ha⟩
    · exact Or.inl h
    · refine Or.inr ?_
      rw [ha]
      exact congrArg (fun z => some (Value.ref z)) (kx_adr_at (List.mem_append_right _ hq) ha).symm
  · unfold kx_ad
    rw [if_neg (by decide)]
    exact kx_adr_b (s := s) (b := b)
def h00 : kx_Mem := (fun _ _ => 0, fun _ _ => 0, fun _ _ => none, fun _ => (0, 0), 0)
theorem bd00 : Bd (fun _ _ z => z = 0) [] [] [] 0 h00 := ⟨rfl, ⟨fun _ h => absurd h List.not_mem_nil, fun _ h => absurd h List.not_mem_nil⟩, ⟨fun _ h => absurd h List.not_mem_nil, fun _ h => absurd h List.not_mem_nil⟩, ⟨fun _ _ => rfl, fun _ _ _ => rfl⟩, fun _ _ => rfl, fun _ h => absurd h List.not_mem_nil⟩
theorem whole_start {p : Program} {e : Env} {s : State} {m : MethodId} {below : List Frame} {meth : Method} {c : Code} (l : Launch) {b L : Nat} {xs : Nat → Int32} (hL : L ≤ 3584) (C0 : lw_At p s m meth c b L xs) (hnm : meth.name = x.name) : W p l e room_1 s m #[Value.ref b] below meth c s.heap [] 0 0 (lw_Z below #[Value.ref b] s) (entryFrame m ([Value.ref b] : List Value).toArray 4) := by
  obtain ⟨hx, hb, hr, hml, hown, hts, hX, hbl, hlocks, hgv⟩ := id C0
  obtain ⟨g, hK, hg1, hg2, hg3⟩ := kx_start hts hgv
  have C : kx_Cx g m_La_law p s m #[Value.ref b] meth c := ⟨hx, hb, hr, hml, hown, fun w hw => hts w (List.mem_filter.mp hw).1, hlocks, hnm, hK⟩
  have hX' : va_X b L xs s g.2.2.2.2 := by rw [hg2]; exact hX
  have hbl' : b < g.2.2.1 := by rw [hg1]; exact hbl
  have hR : kx_Rel g h00 s.heap := ⟨by rw [hg1]; rfl, by decide, ⟨fun a h => absurd rfl h, fun q _ => by rw [hg2]⟩, fun a h => absurd rfl h, fun a => ⟨fun ci r hk _ => (by cases hk), fun hk => absurd hk (by show ¬ 50 ≤ 0; decide)⟩⟩
  have hent := kx_entry g [Value.ref 1000300] (n := 4) (by decide)
  rw [show [Value.ref 1000300].map (kx_cv g) = [Value.ref b] from by simp [kx_cv, hg3]] at hent
  rw [lg_entry_eq]
  have key : kl_X p l e s m #[Value.ref b] below meth c g (lw_Z below #[Value.ref b] s) 0 0 0 [some (.ref 1000300), none, none, none] [] h00 := by
    refine kl_newO C (pc := 0) (ci := 12) (r := (kx_C12, kx_T12, 13)) rfl cl_La_7 (kx_in 32 (by decide +kernel) rfl) (kx_in 1 (by decide +kernel) rfl) (by decide) (by decide) (by decide) (kx_dd d_La_0 0 rfl) ?_
    have hB : Bd (fun _ _ z => z = 0) [] [(0, 13, 0)] [] 1 (kx_new h00 13 0) := bd00.new
    refine kl_dup C (pc := 3) (kx_dd d_La_0 1 rfl) rfl ?_
    refine kl_invI C (pc := 4) (a := 0) (as := []) rfl (kx_dd d_La_0 2 rfl) ⟨lk_La_9, rfl, wi_Tc_init⟩ w_Tc_init rfl rfl (Nat.le_of_ble_eq_true rfl) (x_Tc_init (d := 25) hB) (by decide) ⟨by decide, by decide⟩ (fun v h1 hq => ?_)
    obtain ⟨rfl, hB1⟩ := hq
    refine kl_astore_ne C (pc := 7) (x := 0) (lv' := [some (.ref 1000300), some (.ref 0), none, none]) (kx_dd d_La_0 3 rfl) rfl (by decide) rfl ?_
    refine kl_newO C (pc := 8) (ci := 14) (r := (kx_C14, kx_T14, 94)) rfl cl_La_10 (kx_in 1366 (by decide +kernel) rfl) (kx_in 14 (by decide +kernel) rfl) (by rw [hB1.1]; decide) (by decide) (by decide) (kx_dd d_La_0 4 rfl) ?_
    rw [hB1.1]
    refine kl_dup C (pc := 11) (kx_dd d_La_0 5 rfl) rfl ?_
    refine kl_invI C (pc := 12) (a := 84) (as := []) rfl (kx_dd d_La_0 6 rfl) ⟨lk_La_12, rfl, wi_Mo_init⟩ w_Mo_init rfl rfl (Nat.le_of_ble_eq_true rfl) (y_Mo_init (d := 26) EC [75, 66, 57, 48, 4] hB1.new (by decide)) (by decide) ⟨by decide, by decide⟩ (fun v h2 hq => ?_)
    obtain ⟨rfl, hBn⟩ := hq
    refine kl_astore_ne C (pc := 15) (x := 84) (lv' := [some (.ref 1000300), some (.ref 0), some (.ref 84), none]) (kx_dd d_La_0 7 rfl) rfl (by decide) rfl ?_
    refine kl_iconst C (pc := 16) (v := nI (7 * 0)) (kx_dd d_La_0 8 rfl) (by decide) ?_
    refine kl_istore_ne C (pc := 17) (lv' := [some (.ref 1000300), some (.ref 0), some (.ref 84), some (.int (nI (7 * 0)))]) (kx_dd d_La_0 9 rfl) rfl (by decide) rfl ?_
    exact kl_widen (by decide) (by decide) (la_loop C hX' hbl' hg3 hL hg1 512 0 h2 rfl (by decide) (glob0 hBn))
  exact key s.heap [] _ hR (fun _ h => by cases h) hent
