/-! a method with a handler table of its own: its contract, its call -/
abbrev kw_ws (μ : kx_M) (hh : List (Nat × Nat × Nat × Nat)) : List Cond := .codeWith μ.1 μ.2.1 μ.2.2.1 μ.2.2.2 hh :: kx_good
def kw_Sp (l : Launch) (g : kx_G) (μ : kx_M) (hh : List (Nat × Nat × Nat × Nat)) (as : List Value) (h : kx_Mem) (d mc ms : Nat) (Q : Option Value → kx_Mem → Prop) : Prop :=
  Met l μ.1 (kw_ws μ hh) (kx_room d mc ms) (kx_Pc g as h) (kx_Qc g Q) mc ms (fun q => g.2.2.1 ≤ q)
theorem kw_enter {l : Launch} {g : kx_G} {μ : kx_M} {hh : List (Nat × Nat × Nat × Nat)} {as : List Value} {h : kx_Mem} {d mc ms : Nat} {Q : Option Value → kx_Mem → Prop} {lv : List (Option Value)} (hy : plainName μ.1.cls = true) (hn : (kx_arg as).length ≤ μ.2.2.1) (hlv : kx_ent μ.2.2.1 as = lv)
    (hX : kt_X (l, g, μ, d, mc, ms, Q, (fun _ => False), hh) 0 0 0 lv [] h) : kw_Sp l g μ hh as h d mc ms Q := by
  subst hlv
  refine va_MetW (cc := μ.2.1) (maxL := μ.2.2.1) (ret := μ.2.2.2) (hh := hh) hy rfl ?_
  intro p e s m args below meth c s₁ B hml hv
  obtain ⟨rfl, hR, hK⟩ := hv
  have hts := atoms_spec (ws := kw_ws μ hh) B.pre
  have hown : s.vm.findClass μ.1.cls = some m.cls := findClass_of_methodNamed B.named
  obtain ⟨m9, meth9, c9, hn9, z1, z2, -, -, z3, -, -, -⟩ := Cond.codeWith_spec (hts _ List.mem_cons_self)
  cases B.named.symm.trans hn9
  cases B.method.symm.trans z1
  cases (Stand.of_body B).code.symm.trans z2
  rw [lg_entry_eq]
  intro T hT X
  obtain ⟨t, a1, o, b1, b2, b3, L, b4, b5⟩ := hX p e s m _ below meth c ⟨⟨B.exec, B.bytes, B.returns, hml, hown, fun w hw => hts w (List.mem_cons_of_mem _ hw), B.notSynchronized, (name_of_methodNamed B.named B.method).1, hK⟩, z3⟩ s.heap [] _ hR (fun _ h => by cases h) (kx_entry g as hn) T hT X
  rcases b3 with ⟨v, h', rfl, q1, q2⟩ | ⟨h', -, -, q⟩
  · exact ⟨t, a1, _, b1, b2, ⟨v, h', rfl, q1, q2⟩, L, ⟨⟨_, rfl⟩, b4.1, b4.2⟩, b5⟩
  · exact q.elim
section KWC
variable {p : Program} {l : Launch} {e : Env} {R : Room} {s : State} {m : MethodId} {args : Array Value} {below : List Frame} {meth : Method} {c : Code} {T : State} {locs : List Loc} {cells slots : Nat}
theorem kw_callV (X : Stand p l e R s m args below meth c T locs cells slots) (hexec : p.tables.exec = Jvm.exec) {own C : String} {index : Nat} {y : MethodName} {bytes : ByteArray} {maxL : Nat} {ret : Option FieldType} {hh : List (Nat × Nat × Nat × Nat)}
    (hown : s.vm.findClass own = some m.cls) (hlink : (Cond.methodLink own index y).before args s = true) (hinst : (Cond.instanceMethod y).before args s = true) (hsel : (Cond.selects C y y).before args s = true)
    (hcode : (Cond.codeWith y bytes maxL ret hh).before args s = true) (hy : y.cls ≠ "java/lang/invoke/MethodHandle" ∧ y.cls ≠ "java/lang/invoke/VarHandle")
    {W : Nat} {Pre : Pt → Array Value → Prop} {Post : Pt → Array Value → Option Value → Pt → Prop} (hK : Back l R p e below s args y 3 W Pre Post)
    {b : Addr} {cellB : Cell} (hcell : T.heap[b]? = some cellB) (hobj : cellB.vm.isStatics = false) (hcls : s.vm.findClass C = some cellB.cls)
    {g : JFrame} (hg : g.method = m) (hsize : g.locals.size = c.maxLocals) {argsL rest : List Value} (hlen : ∀ sig, parseMethodDescriptor y.desc = some sig → argsL.length = sig.parameters.length)
    (hstack : g.stack = argsL.reverse ++ .ref b :: rest) (hW : 2 * g.monitorRoom + (rest.map fun v => v.category).sum ≤ W) (hdg : decode c.code g.pc = .ok (.invokevirtual index, 3))
    (hpre : ∀ vm₁, s.WarmedH vm₁ → Pre ⟨T.setVm vm₁, locs, cells, slots⟩ (Value.ref b :: argsL).toArray) :
    ∃ (v : Option Value) (vm₁ : Vm) (B : Pt), s.WarmedH vm₁ ∧ Stand p l e R s m args below meth c B.U B.locs B.cells B.slots ∧ Post ⟨T.setVm vm₁, locs, cells, slots⟩ (Value.ref b :: argsL).toArray v B ∧
      ∀ target, Steps p.tables e below (B.U.setTop { g with pc := g.pc + 3, stack := v.toList ++ rest }) target → Steps p.tables e below (T.setTop g) target := by
  obtain ⟨mk, methM, hnamed, hmethM, hstM, habM⟩ := Cond.instanceMethod_spec hinst
  obtain ⟨m9, methM', cM, hn9, hmethM', -, -, -, -, -, -, hsigM⟩ := Cond.codeWith_spec hcode
  cases hnamed.symm.trans hn9
  cases hmethM.symm.trans hmethM'
  obtain ⟨c2, r2, m2, q1, q2, q3, q4, kP, hkP, hkPi⟩ := Cond.selects_spec hsel
  cases hcls.symm.trans q1
  cases (State.methodFound?_of_named hnamed hy).symm.trans q2
  cases hnamed.symm.trans q3
  have hselP : selectMethod e.platform s.vm cellB.cls mk = .method mk := by rw [Launch.admits_selectMethod X.admits]; exact q4
  obtain ⟨vm₁, X₁, hstep₁⟩ := X.invokevirtual hexec hown hlink hnamed hmethM hstM hkP hkPi hy (a := b) (cell := cellB) hcell
    (fun z h => by rw [h] at hobj; cases hobj) hselP hmethM habM hkP hkPi (g := g) hg (argsL := argsL) (rest := rest) (hlen _ hsigM) hstack hdg
  obtain ⟨v, B, X', hpost, hsteps⟩ := hK m meth c ⟨T.setVm vm₁, locs, cells, slots⟩ { g with stack := rest } (.invokevirtual index) mk (Value.ref b :: argsL).toArray X₁ hg hsize hdg hW (X₁.named hnamed) (hpre vm₁ X₁.warmed)
  exact ⟨v, vm₁, B, X₁.warmed, X', hpost, fun target h => hstep₁ _ fun acts => by rw [doInvoke_state]; exact hsteps.trans h⟩
end KWC
def kw_MW (ν : kx_M) (n : Nat) (hh : List (Nat × Nat × Nat × Nat)) : Prop := Cond.codeWith ν.1 ν.2.1 ν.2.2.1 ν.2.2.2 hh ∈ kx_good ∧ Cond.initialized ν.1.cls ∈ kx_good ∧ (ν.1.cls ≠ "java/lang/invoke/MethodHandle" ∧ ν.1.cls ≠ "java/lang/invoke/VarHandle") ∧ (parseMethodDescriptor ν.1.desc).map (fun d => d.parameters.length) = some n ∧ ν.2.2.1 ≤ 13
section KWR
variable {f : kx_F} {cells slots pc : Nat} {lv : List (Option Value)} {st st0 : List Value} {h : kx_Mem} {ν : kx_M} {n idx d' mc' ms' : Nat} {Q' : Option Value → kx_Mem → Prop} {hh : List (Nat × Nat × Nat × Nat)}
theorem kw_inv {a ci : Nat} {r : vw_C} {as : List Value} (hd : decode f.2.2.1.2.1 pc = .ok (.invokevirtual idx, 3)) (hlk : Cond.methodLink f.2.2.1.1.cls idx ν.1 ∈ kx_good) (hin : Cond.instanceMethod ν.1 ∈ kx_good) (hse : Cond.selects ν.1.cls ν.1 ν.1 ∈ kx_good) (hw : kw_MW ν n hh) (hk : (h.2.2.2.1 a).1 = ci + 1) (hc : kx_cl[ci]? = some r) (hcn : r.1 = ν.1.cls) (hst : st0 = as.reverse ++ .ref a :: st) (hn : as.length = n) (hcat : (st.map fun v => v.category).sum ≤ 8)
    (hM : kw_Sp f.1 f.2.1 ν hh (.ref a :: as) h d' mc' ms' Q') (hdd : d' + 1 ≤ f.2.2.2.1) (hf : cells + mc' ≤ f.2.2.2.2.1 ∧ slots + ms' ≤ f.2.2.2.2.2.1) (kk : ∀ v h', Q' v h' → kx_X f (cells + mc') (slots + ms') (pc + 3) lv (v.toList ++ st) h') : kx_X f cells slots pc lv st0 h := by
  intro p e s m args below meth c C H locs ls hR hL hl
  obtain ⟨hx, hb, -, hml, hown, hts, -, hnm, hK⟩ := id C
  have hrecv := kx_recv hK hR hk hc
  rw [hcn] at hrecv
  have hpre := kx_preS (as := .ref a :: as) hK hR
  have hlen : (as.map (kx_cv f.2.1)).length = n := by rw [List.length_map]; exact hn
  have hstk : st0.map (kx_cv f.2.1) = (as.map (kx_cv f.2.1)).reverse ++ .ref (kx_ad f.2.1 a) :: st.map (kx_cv f.2.1) := by rw [hst]; simp [kx_cv]
  have hcat' : ((st.map (kx_cv f.2.1)).map fun v => v.category).sum ≤ 8 := by rw [List.map_map]; simpa [Function.comp_def, kx_cv_cat] using hcat
  have h13 := hw.2.2.2.2
  have hin0 : ∀ w ∈ kw_ws ν hh, ∀ (a' : Array Value) (U : State), s.WarmedH U.vm → w.before a' U = true := by
    refine pay_in (big := kx_good) hts (fun w h => ?_)
    have h1 : w ∈ kx_good := by
      rcases List.mem_cons.mp h with rfl | h
      · exact hw.1
      · exact h
    exact ⟨h1, good_of_word (List.mem_filter.mp h1).2⟩
  have hB := va_backW (R := kx_room f.2.2.2.1 f.2.2.2.2.1 f.2.2.2.2.2.1) (p := p) (e := e) (below := below) (s := s) (sargs := args) (len := 3) (W := 8) (bytes := ν.2.1) (maxL := ν.2.2.1) (ret := ν.2.2.2) (hh := hh) hM hpre.1 rfl rfl hdd (show 8 + (ν.2.2.1 + 11) + 32 * d' ≤ 32 * f.2.2.2.1 by omega) hin0 List.mem_cons_self (fun a' U hW => word_at hW (Or.inl (by first | rfl | simp [Cond.onTables, Cond.keeps, Cond.steady])) (hts _ hw.2.1))
  refine kx_after (a9 := (Value.ref (kx_ad f.2.1 a) :: as.map (kx_cv f.2.1)).toArray) ?_ C hL hl kk
  obtain ⟨cellB, hcB, hoB, hclB⟩ := hrecv
  intro T hT X
  obtain ⟨v, vm₁, ⟨U', l2, c2, s2⟩, hW₁, X', ⟨g', mk, t, L, e1, e2, hq, h1, hLL, h2, h3⟩, stp⟩ := kw_callV X hx (C := ν.1.cls) (bytes := ν.2.1) (maxL := ν.2.2.1) (ret := ν.2.2.2) (hh := hh) hown (hts _ hlk) (hts _ hin) (hts _ hse) (hts _ hw.1) hw.2.2.1 hB (by rw [hT]; exact hcB) hoB hclB (g := F0 m pc ls (st0.map (kx_cv f.2.1))) rfl (hl.1.trans hml.symm) (argsL := as.map (kx_cv f.2.1)) (rest := st.map (kx_cv f.2.1)) (fun sig z => hlen.trans (by
      have h2 := hw.2.2.2.1
      rw [z] at h2
      exact (Option.some.inj h2).symm)) hstk (lv_room hcat') (by rw [hb]; exact hd)
    (fun vm₁ hW₁ => ⟨hf.1, hf.2, hpre.2 (T.setVm vm₁) hT hW₁⟩)
  dsimp only [Pt.U, Pt.locs, Pt.cells, Pt.slots] at X' e1 e2 h1 h2 h3 stp
  subst h1; subst h2; subst h3
  exact ⟨v, (T.setVm vm₁).calling g' mk _, t, U', L, hT, X', hLL, e1, e2, hq, stp⟩
end KWR
