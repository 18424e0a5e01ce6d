/-! methods that may throw: the same rows -/
/-- how a body that may throw ends -/
def kt_MQ (below : List Frame) (Qc : Array Value → State → Outcome → State → Prop) (a : Array Value) (s : State) (mc ms : Nat) (free : Addr → Prop) : State → Prop := fun t =>
  ∃ o, t.status = .running ∧ Ended t below o ∧ Qc a s o t ∧ ∃ L, (s.WarmedH t.vm ∧ s.sameButNew ({ t with vm := s.vm } : State) L mc ms) ∧ ∀ q ∈ L, free q.base
/-- it returned, with Q; or it threw the reference's one exception, object 87, with Z -/
def kt_Qc (g : kx_G) (Q : Option Value → kx_Mem → Prop) (Z : kx_Mem → Prop) : Array Value → State → Outcome → State → Prop := fun _ _ o t => (∃ (v : Option Value) (h : kx_Mem), o = .returned (v.map (kx_cv g)) ∧ kx_Rel g h t.heap ∧ Q v h) ∨ ∃ h : kx_Mem, o = .threw (kx_ad g 87) ∧ kx_Rel g h t.heap ∧ Z h
abbrev kt_F : Type := Launch × kx_G × kx_M × Nat × Nat × Nat × (Option Value → kx_Mem → Prop) × (kx_Mem → Prop) × List (Nat × Nat × Nat × Nat)
def kt_Cx (g : kx_G) (μ : kx_M) (hh : List (Nat × Nat × Nat × Nat)) (p : Program) (s : State) (m : MethodId) (args : Array Value) (meth : Method) (c : Code) : Prop :=
  kx_Cx g μ p s m args meth c ∧ c.exceptionTable.toList.map (fun h => (h.startPc, h.endPc, h.handlerPc, h.catchType)) = hh
def kt_X (f : kt_F) (cells slots pc : Nat) (lv : List (Option Value)) (st : List Value) (h : kx_Mem) : Prop :=
  ∀ (p : Program) (e : Env) (s : State) (m : MethodId) (args : Array Value) (below : List Frame) (meth : Method) (c : Code), kt_Cx f.2.1 f.2.2.1 f.2.2.2.2.2.2.2.2 p s m args meth c →
  ∀ (H : Heap) (locs : List Loc) (ls : Array Slot), kx_Rel f.2.1 h H → (∀ q ∈ locs, f.2.1.2.2.1 ≤ q.base) → kx_has f.2.1 ls f.2.2.1.2.2.1 lv →
  W p f.1 e (kx_room f.2.2.2.1 f.2.2.2.2.1 f.2.2.2.2.2.1) s m args below meth c H locs cells slots (kt_MQ below (kt_Qc f.2.1 f.2.2.2.2.2.2.1 f.2.2.2.2.2.2.2.1) args s f.2.2.2.2.1 f.2.2.2.2.2.1 (fun q => f.2.1.2.2.1 ≤ q)) (F0 m pc ls (st.map (kx_cv f.2.1)))
/-- a body's rest that throws nothing -/
theorem kt_ofX {l : Launch} {g : kx_G} {μ : kx_M} {d mc ms : Nat} {Q : Option Value → kx_Mem → Prop} {Z : kx_Mem → Prop} {hh : List (Nat × Nat × Nat × Nat)} {cells slots pc : Nat} {lv : List (Option Value)} {st : List Value} {h : kx_Mem} (k : kx_X (l, g, μ, d, mc, ms, Q) cells slots pc lv st h) : kt_X (l, g, μ, d, mc, ms, Q, Z, hh) cells slots pc lv st h := by
  intro p e s m args below meth c C H locs ls hR hL hl T hT X
  obtain ⟨t, a1, o, b1, b2, ⟨v, h', e1, b3, b4⟩, L, ⟨-, c2, c3⟩, b5⟩ := k p e s m args below meth c C.1 H locs ls hR hL hl T hT X
  exact ⟨t, a1, o, b1, b2, Or.inl ⟨v, h', e1, b3, b4⟩, L, ⟨c2, c3⟩, b5⟩
/-- a contract of a method that may throw -/
def kt_Sp (l : Launch) (g : kx_G) (μ : kx_M) (as : List Value) (h : kx_Mem) (d mc ms : Nat) (Q : Option Value → kx_Mem → Prop) (Z : kx_Mem → Prop) : Prop :=
  MetFree l μ.1 (headSpec (kx_ws μ) (kx_room d mc ms)) (kx_Pc g as h) (fun _ _ _ _ _ => True) (fun a st o t => kt_Qc g Q Z a st o t ∧ ∃ L, (st.WarmedH t.vm ∧ st.sameButNew ({ t with vm := st.vm } : State) L mc ms) ∧ ∀ q ∈ L, g.2.2.1 ≤ q.base)
theorem kt_enter {l : Launch} {g : kx_G} {μ : kx_M} {as : List Value} {h : kx_Mem} {d mc ms : Nat} {Q : Option Value → kx_Mem → Prop} {Z : kx_Mem → Prop} {lv : List (Option Value)} (hy : plainName μ.1.cls = true) (hn : (kx_arg as).length ≤ μ.2.2.1) (hlv : kx_ent μ.2.2.1 as = lv)
    (hX : kt_X (l, g, μ, d, mc, ms, Q, Z, []) 0 0 0 lv [] h) : kt_Sp l g μ as h d mc ms Q Z := by
  subst hlv
  refine MetFree.of_bodyS (code := μ.2.1) (maxLocals := μ.2.2.1) (ret := μ.2.2.2) hy ?_ ?_
  · intro args s m h hn
    obtain ⟨meth, c, h1, h2, h3, h4, h5, h6, -, -⟩ := Cond.code_spec hn (atoms_spec (ws := kx_ws μ) h _ List.mem_cons_self)
    exact ⟨meth, c, h1, h2, h3, h4, h5, h6⟩
  · intro p e s m args below meth c s₁ B hml hP _
    have hh0 : s₁.heap = s.heap := by rw [B.state]; rfl
    obtain ⟨rfl, hR, hK⟩ := hP
    have hts := atoms_spec (ws := kx_ws μ) B.pre
    have hown : s.vm.findClass μ.1.cls = some m.cls := findClass_of_methodNamed B.named
    have hemp := B.noHandlers (hts _ List.mem_cons_self)
    have hX' := hX p e s m _ below meth c ⟨⟨B.exec, B.bytes, B.returns, hml, hown, fun w hw => hts w (List.mem_cons_of_mem _ hw), B.notSynchronized, (name_of_methodNamed B.named B.method).1, hK⟩, by
      have : c.exceptionTable = #[] := Array.isEmpty_iff.mp hemp
      rw [this]; rfl⟩ s.heap [] _ hR (fun _ h => by cases h) (kx_entry g as hn)
    rw [lg_entry_eq]
    obtain ⟨t, a1, o, b1, b2, b3⟩ := hX' s₁ hh0 (Stand.of_body B)
    exact ⟨t, o, a1, b1, b2, ⟨b3.1, b3.2⟩⟩
section KTR
variable {f : kt_F} {cells slots pc : Nat} {lv : List (Option Value)} {st : List Value} {h : kx_Mem}
theorem kt_iconst {n : Int} {v : Int32} (hd : decode f.2.2.1.2.1 pc = .ok (.iconst n, 1)) (hv : Int32.ofInt n = v) (k : kt_X f cells slots (pc + 1) lv (.int v :: st) h) : kt_X f cells slots pc lv (st) h := by
  intro p e s m args below meth c C H locs ls hR hL hl
  exact lv_iconst C.1.1 C.1.2.1 hd hv (k p e s m args below meth c C H locs ls hR hL hl)
theorem kt_bipush {n : Int} {v : Int32} (hd : decode f.2.2.1.2.1 pc = .ok (.bipush n, 2)) (hv : (Int8.ofInt n).toInt32 = v) (k : kt_X f cells slots (pc + 2) lv (.int v :: st) h) : kt_X f cells slots pc lv (st) h := by
  intro p e s m args below meth c C H locs ls hR hL hl
  exact lv_bipush C.1.1 C.1.2.1 hd hv (k p e s m args below meth c C H locs ls hR hL hl)
theorem kt_sipush {n : Int} {v : Int32} (hd : decode f.2.2.1.2.1 pc = .ok (.sipush n, 3)) (hv : (Int16.ofInt n).toInt32 = v) (k : kt_X f cells slots (pc + 3) lv (.int v :: st) h) : kt_X f cells slots pc lv (st) h := by
  intro p e s m args below meth c C H locs ls hR hL hl
  exact lv_sipush C.1.1 C.1.2.1 hd hv (k p e s m args below meth c C H locs ls hR hL hl)
theorem kt_lconst {n : Fin 2} {v : Int64} (hd : decode f.2.2.1.2.1 pc = .ok (.lconst n, 1)) (hv : Int64.ofNat (n : Nat) = v) (k : kt_X f cells slots (pc + 1) lv (.long v :: st) h) : kt_X f cells slots pc lv (st) h := by
  intro p e s m args below meth c C H locs ls hR hL hl
  exact lv_lconst C.1.1 C.1.2.1 hd hv (k p e s m args below meth c C H locs ls hR hL hl)
theorem kt_null  (hd : decode f.2.2.1.2.1 pc = .ok (.aconst_null, 1)) (k : kt_X f cells slots (pc + 1) lv (.null :: st) h) : kt_X f cells slots pc lv (st) h := by
  intro p e s m args below meth c C H locs ls hR hL hl
  exact lv_null C.1.1 C.1.2.1 hd (k p e s m args below meth c C H locs ls hR hL hl)
theorem kt_iload_n {kn : Fin 4} {i : Nat} (hd : decode f.2.2.1.2.1 pc = .ok (.iload_n kn, 1)) (hi : (kn : Nat) = i) {x : Int32} (hv : lv[i]? = some (some (.int x))) (k : kt_X f cells slots (pc + 1) lv (.int x :: st) h) : kt_X f cells slots pc lv st h := by
  intro p e s m args below meth c C H locs ls hR hL hl
  exact lv_iload_n C.1.1 C.1.2.1 hd hi (hl.at hv) (k p e s m args below meth c C H locs ls hR hL hl)
theorem kt_iload {i : Nat} (hd : decode f.2.2.1.2.1 pc = .ok (.iload i, 2)) {x : Int32} (hv : lv[i]? = some (some (.int x))) (k : kt_X f cells slots (pc + 2) lv (.int x :: st) h) : kt_X f cells slots pc lv st h := by
  intro p e s m args below meth c C H locs ls hR hL hl
  exact lv_iload C.1.1 C.1.2.1 hd (hl.at hv) (k p e s m args below meth c C H locs ls hR hL hl)
theorem kt_lload_n {kn : Fin 4} {i : Nat} (hd : decode f.2.2.1.2.1 pc = .ok (.lload_n kn, 1)) (hi : (kn : Nat) = i) {x : Int64} (hv : lv[i]? = some (some (.long x))) (k : kt_X f cells slots (pc + 1) lv (.long x :: st) h) : kt_X f cells slots pc lv st h := by
  intro p e s m args below meth c C H locs ls hR hL hl
  exact lv_lload_n C.1.1 C.1.2.1 hd hi (hl.at hv) (k p e s m args below meth c C H locs ls hR hL hl)
theorem kt_lload {i : Nat} (hd : decode f.2.2.1.2.1 pc = .ok (.lload i, 2)) {x : Int64} (hv : lv[i]? = some (some (.long x))) (k : kt_X f cells slots (pc + 2) lv (.long x :: st) h) : kt_X f cells slots pc lv st h := by
  intro p e s m args below meth c C H locs ls hR hL hl
  exact lv_lload C.1.1 C.1.2.1 hd (hl.at hv) (k p e s m args below meth c C H locs ls hR hL hl)
theorem kt_aload_n {kn : Fin 4} {i : Nat} (hd : decode f.2.2.1.2.1 pc = .ok (.aload_n kn, 1)) (hi : (kn : Nat) = i) {x : Nat} (hv : lv[i]? = some (some (.ref x))) (k : kt_X f cells slots (pc + 1) lv (.ref x :: st) h) : kt_X f cells slots pc lv st h := by
  intro p e s m args below meth c C H locs ls hR hL hl
  exact lv_aload_n C.1.1 C.1.2.1 hd hi (hl.at hv) (k p e s m args below meth c C H locs ls hR hL hl)
theorem kt_aload {i : Nat} (hd : decode f.2.2.1.2.1 pc = .ok (.aload i, 2)) {x : Nat} (hv : lv[i]? = some (some (.ref x))) (k : kt_X f cells slots (pc + 2) lv (.ref x :: st) h) : kt_X f cells slots pc lv st h := by
  intro p e s m args below meth c C H locs ls hR hL hl
  exact lv_aload C.1.1 C.1.2.1 hd (hl.at hv) (k p e s m args below meth c C H locs ls hR hL hl)
theorem kt_aload_nN {kn : Fin 4} {i : Nat} (hd : decode f.2.2.1.2.1 pc = .ok (.aload_n kn, 1)) (hi : (kn : Nat) = i) (hv : lv[i]? = some (some .null)) (k : kt_X f cells slots (pc + 1) lv (.null :: st) h) : kt_X f cells slots pc lv st h := by
  intro p e s m args below meth c C H locs ls hR hL hl
  exact lv_aload_nN C.1.1 C.1.2.1 hd hi (hl.at hv) (k p e s m args below meth c C H locs ls hR hL hl)
theorem kt_aloadN {i : Nat} (hd : decode f.2.2.1.2.1 pc = .ok (.aload i, 2)) (hv : lv[i]? = some (some .null)) (k : kt_X f cells slots (pc + 2) lv (.null :: st) h) : kt_X f cells slots pc lv st h := by
  intro p e s m args below meth c C H locs ls hR hL hl
  exact lv_aloadN C.1.1 C.1.2.1 hd (hl.at hv) (k p e s m args below meth c C H locs ls hR hL hl)
theorem kt_istore_n {kn : Fin 4} {i : Nat} (hd : decode f.2.2.1.2.1 pc = .ok (.istore_n kn, 1)) (hi : (kn : Nat) = i) {x : Int32} (hn : i < f.2.2.1.2.2.1) (k : kt_X f cells slots (pc + 1) (kx_s1 lv i (.int x)) st h) : kt_X f cells slots pc lv (.int x :: st) h := by
  intro p e s m args below meth c C H locs ls hR hL hl
  exact lv_istore_n C.1.1 C.1.2.1 hd hi hl hn rfl (fun ls' hl' => k p e s m args below meth c C H locs ls' hR hL (kx_has.st1 hl'))
theorem kt_istore {i : Nat} (hd : decode f.2.2.1.2.1 pc = .ok (.istore i, 2)) {x : Int32} (hn : i < f.2.2.1.2.2.1) (k : kt_X f cells slots (pc + 2) (kx_s1 lv i (.int x)) st h) : kt_X f cells slots pc lv (.int x :: st) h := by
  intro p e s m args below meth c C H locs ls hR hL hl
  exact lv_istore C.1.1 C.1.2.1 hd hl hn rfl (fun ls' hl' => k p e s m args below meth c C H locs ls' hR hL (kx_has.st1 hl'))
theorem kt_lstore_n {kn : Fin 4} {i : Nat} (hd : decode f.2.2.1.2.1 pc = .ok (.lstore_n kn, 1)) (hi : (kn : Nat) = i) {x : Int64} (hn : i + 1 < f.2.2.1.2.2.1) (k : kt_X f cells slots (pc + 1) (kx_s2 lv i (.long x)) st h) : kt_X f cells slots pc lv (.long x :: st) h := by
  intro p e s m args below meth c C H locs ls hR hL hl
  exact lv_lstore_n C.1.1 C.1.2.1 hd hi hl hn rfl (fun ls' hl' => k p e s m args below meth c C H locs ls' hR hL (kx_has.st2 hl'))
theorem kt_lstore {i : Nat} (hd : decode f.2.2.1.2.1 pc = .ok (.lstore i, 2)) {x : Int64} (hn : i + 1 < f.2.2.1.2.2.1) (k : kt_X f cells slots (pc + 2) (kx_s2 lv i (.long x)) st h) : kt_X f cells slots pc lv (.long x :: st) h := by
  intro p e s m args below meth c C H locs ls hR hL hl
  exact lv_lstore C.1.1 C.1.2.1 hd hl hn rfl (fun ls' hl' => k p e s m args below meth c C H locs ls' hR hL (kx_has.st2 hl'))
theorem kt_astore_n {kn : Fin 4} {i : Nat} (hd : decode f.2.2.1.2.1 pc = .ok (.astore_n kn, 1)) (hi : (kn : Nat) = i) {x : Nat} (hn : i < f.2.2.1.2.2.1) (k : kt_X f cells slots (pc + 1) (kx_s1 lv i (.ref x)) st h) : kt_X f cells slots pc lv (.ref x :: st) h := by
  intro p e s m args below meth c C H locs ls hR hL hl
  exact lv_astore_n C.1.1 C.1.2.1 hd hi hl hn rfl (fun ls' hl' => k p e s m args below meth c C H locs ls' hR hL (kx_has.st1 hl'))
theorem kt_astore {i : Nat} (hd : decode f.2.2.1.2.1 pc = .ok (.astore i, 2)) {x : Nat} (hn : i < f.2.2.1.2.2.1) (k : kt_X f cells slots (pc + 2) (kx_s1 lv i (.ref x)) st h) : kt_X f cells slots pc lv (.ref x :: st) h := by
  intro p e s m args below meth c C H locs ls hR hL hl
  exact lv_astore C.1.1 C.1.2.1 hd hl hn rfl (fun ls' hl' => k p e s m args below meth c C H locs ls' hR hL (kx_has.st1 hl'))
theorem kt_astore_nN {kn : Fin 4} {i : Nat} (hd : decode f.2.2.1.2.1 pc = .ok (.astore_n kn, 1)) (hi : (kn : Nat) = i) (hn : i < f.2.2.1.2.2.1) (k : kt_X f cells slots (pc + 1) (kx_s1 lv i (.null)) st h) : kt_X f cells slots pc lv (.null :: st) h := by
  intro p e s m args below meth c C H locs ls hR hL hl
  exact lv_astore_nN C.1.1 C.1.2.1 hd hi hl hn rfl (fun ls' hl' => k p e s m args below meth c C H locs ls' hR hL (kx_has.st1 hl'))
theorem kt_astoreN {i : Nat} (hd : decode f.2.2.1.2.1 pc = .ok (.astore i, 2)) (hn : i < f.2.2.1.2.2.1) (k : kt_X f cells slots (pc + 2) (kx_s1 lv i (.null)) st h) : kt_X f cells slots pc lv (.null :: st) h := by
  intro p e s m args below meth c C H locs ls hR hL hl
  exact lv_astoreN C.1.1 C.1.2.1 hd hl hn rfl (fun ls' hl' => k p e s m args below meth c C H locs ls' hR hL (kx_has.st1 hl'))
theorem kt_iinc {i : Nat} {n : Int} {x v : Int32} (hd : decode f.2.2.1.2.1 pc = .ok (.iinc i n, 3)) (hx : lv[i]? = some (some (.int x))) (hn : i < f.2.2.1.2.2.1) (hv : x + Int32.ofInt n = v) (k : kt_X f cells slots (pc + 3) (kx_s1 lv i (.int v)) st h) : kt_X f cells slots pc lv st h := by
  intro p e s m args below meth c C H locs ls hR hL hl
  obtain ⟨k9, hk9⟩ := List.getElem?_of_mem (kx_l_mem (g := f.2.1).mpr ⟨_, hx, rfl⟩)
  exact lv_iinc C.1.1 C.1.2.1 hd hl (k := k9) hk9 hv hn rfl (fun ls' hl' => k p e s m args below meth c C H locs ls' hR hL (kx_has.st1 hl'))
theorem kt_iadd {x y : Int32} (hd : decode f.2.2.1.2.1 pc = .ok (.iadd, 1)) (k : kt_X f cells slots (pc + 1) lv (.int (x + y) :: st) h) : kt_X f cells slots pc lv (.int y :: .int x :: st) h := by
  intro p e s m args below meth c C H locs ls hR hL hl
  exact lv_iadd C.1.1 C.1.2.1 hd (k p e s m args below meth c C H locs ls hR hL hl)
theorem kt_isub {x y : Int32} (hd : decode f.2.2.1.2.1 pc = .ok (.isub, 1)) (k : kt_X f cells slots (pc + 1) lv (.int (x - y) :: st) h) : kt_X f cells slots pc lv (.int y :: .int x :: st) h := by
  intro p e s m args below meth c C H locs ls hR hL hl
  exact lv_isub C.1.1 C.1.2.1 hd (k p e s m args below meth c C H locs ls hR hL hl)
theorem kt_imul {x y : Int32} (hd : decode f.2.2.1.2.1 pc = .ok (.imul, 1)) (k : kt_X f cells slots (pc + 1) lv (.int (x * y) :: st) h) : kt_X f cells slots pc lv (.int y :: .int x :: st) h := by
  intro p e s m args below meth c C H locs ls hR hL hl
  exact lv_imul C.1.1 C.1.2.1 hd (k p e s m args below meth c C H locs ls hR hL hl)
theorem kt_iand {x y : Int32} (hd : decode f.2.2.1.2.1 pc = .ok (.iand, 1)) (k : kt_X f cells slots (pc + 1) lv (.int (x &&& y) :: st) h) : kt_X f cells slots pc lv (.int y :: .int x :: st) h := by
  intro p e s m args below meth c C H locs ls hR hL hl
  exact lv_iand C.1.1 C.1.2.1 hd (k p e s m args below meth c C H locs ls hR hL hl)
theorem kt_ior {x y : Int32} (hd : decode f.2.2.1.2.1 pc = .ok (.ior, 1)) (k : kt_X f cells slots (pc + 1) lv (.int (x ||| y) :: st) h) : kt_X f cells slots pc lv (.int y :: .int x :: st) h := by
  intro p e s m args below meth c C H locs ls hR hL hl
  exact lv_ior C.1.1 C.1.2.1 hd (k p e s m args below meth c C H locs ls hR hL hl)
theorem kt_ixor {x y : Int32} (hd : decode f.2.2.1.2.1 pc = .ok (.ixor, 1)) (k : kt_X f cells slots (pc + 1) lv (.int (x ^^^ y) :: st) h) : kt_X f cells slots pc lv (.int y :: .int x :: st) h := by
  intro p e s m args below meth c C H locs ls hR hL hl
  exact lv_ixor C.1.1 C.1.2.1 hd (k p e s m args below meth c C H locs ls hR hL hl)
theorem kt_ladd {x y : Int64} (hd : decode f.2.2.1.2.1 pc = .ok (.ladd, 1)) (k : kt_X f cells slots (pc + 1) lv (.long (x + y) :: st) h) : kt_X f cells slots pc lv (.long y :: .long x :: st) h := by
  intro p e s m args below meth c C H locs ls hR hL hl
  exact lv_ladd C.1.1 C.1.2.1 hd (k p e s m args below meth c C H locs ls hR hL hl)
theorem kt_lsub {x y : Int64} (hd : decode f.2.2.1.2.1 pc = .ok (.lsub, 1)) (k : kt_X f cells slots (pc + 1) lv (.long (x - y) :: st) h) : kt_X f cells slots pc lv (.long y :: .long x :: st) h := by
  intro p e s m args below meth c C H locs ls hR hL hl
  exact lv_lsub C.1.1 C.1.2.1 hd (k p e s m args below meth c C H locs ls hR hL hl)
theorem kt_lmul {x y : Int64} (hd : decode f.2.2.1.2.1 pc = .ok (.lmul, 1)) (k : kt_X f cells slots (pc + 1) lv (.long (x * y) :: st) h) : kt_X f cells slots pc lv (.long y :: .long x :: st) h := by
  intro p e s m args below meth c C H locs ls hR hL hl
  exact lv_lmul C.1.1 C.1.2.1 hd (k p e s m args below meth c C H locs ls hR hL hl)
theorem kt_land {x y : Int64} (hd : decode f.2.2.1.2.1 pc = .ok (.land, 1)) (k : kt_X f cells slots (pc + 1) lv (.long (x &&& y) :: st) h) : kt_X f cells slots pc lv (.long y :: .long x :: st) h := by
  intro p e s m args below meth c C H locs ls hR hL hl
  exact lv_land C.1.1 C.1.2.1 hd (k p e s m args below meth c C H locs ls hR hL hl)
theorem kt_lor {x y : Int64} (hd : decode f.2.2.1.2.1 pc = .ok (.lor, 1)) (k : kt_X f cells slots (pc + 1) lv (.long (x ||| y) :: st) h) : kt_X f cells slots pc lv (.long y :: .long x :: st) h := by
  intro p e s m args below meth c C H locs ls hR hL hl
  exact lv_lor C.1.1 C.1.2.1 hd (k p e s m args below meth c C H locs ls hR hL hl)
theorem kt_lxor {x y : Int64} (hd : decode f.2.2.1.2.1 pc = .ok (.lxor, 1)) (k : kt_X f cells slots (pc + 1) lv (.long (x ^^^ y) :: st) h) : kt_X f cells slots pc lv (.long y :: .long x :: st) h := by
  intro p e s m args below meth c C H locs ls hR hL hl
  exact lv_lxor C.1.1 C.1.2.1 hd (k p e s m args below meth c C H locs ls hR hL hl)
theorem kt_idiv {x y : Int32} (hd : decode f.2.2.1.2.1 pc = .ok (.idiv, 1)) (hne : ¬ y = 0) (k : kt_X f cells slots (pc + 1) lv (.int (x / y) :: st) h) : kt_X f cells slots pc lv (.int y :: .int x :: st) h := by
  intro p e s m args below meth c C H locs ls hR hL hl
  exact lv_idiv C.1.1 C.1.2.1 hd hne (k p e s m args below meth c C H locs ls hR hL hl)
theorem kt_ldiv {x y : Int64} (hd : decode f.2.2.1.2.1 pc = .ok (.ldiv, 1)) (hne : ¬ y = 0) (k : kt_X f cells slots (pc + 1) lv (.long (x / y) :: st) h) : kt_X f cells slots pc lv (.long y :: .long x :: st) h := by
  intro p e s m args below meth c C H locs ls hR hL hl
  exact lv_ldiv C.1.1 C.1.2.1 hd hne (k p e s m args below meth c C H locs ls hR hL hl)
theorem kt_lrem {x y : Int64} (hd : decode f.2.2.1.2.1 pc = .ok (.lrem, 1)) (hne : ¬ y = 0) (k : kt_X f cells slots (pc + 1) lv (.long (x - x / y * y) :: st) h) : kt_X f cells slots pc lv (.long y :: .long x :: st) h := by
  intro p e s m args below meth c C H locs ls hR hL hl
  exact lv_lrem C.1.1 C.1.2.1 hd hne (k p e s m args below meth c C H locs ls hR hL hl)
theorem kt_irem {x y : Int32} (hd : decode f.2.2.1.2.1 pc = .ok (.irem, 1)) (hne : ¬ y = 0) (k : kt_X f cells slots (pc + 1) lv (.int (x - x / y * y) :: st) h) : kt_X f cells slots pc lv (.int y :: .int x :: st) h := by
  intro p e s m args below meth c C H locs ls hR hL hl
  exact lv_irem C.1.1 C.1.2.1 hd hne (k p e s m args below meth c C H locs ls hR hL hl)
theorem kt_ishl {x y : Int32} (hd : decode f.2.2.1.2.1 pc = .ok (.ishl, 1)) (k : kt_X f cells slots (pc + 1) lv (.int (x <<< (y &&& 31)) :: st) h) : kt_X f cells slots pc lv (.int y :: .int x :: st) h := by
  intro p e s m args below meth c C H locs ls hR hL hl
  exact lv_ishl C.1.1 C.1.2.1 hd (k p e s m args below meth c C H locs ls hR hL hl)
theorem kt_ishr {x y : Int32} (hd : decode f.2.2.1.2.1 pc = .ok (.ishr, 1)) (k : kt_X f cells slots (pc + 1) lv (.int (x >>> (y &&& 31)) :: st) h) : kt_X f cells slots pc lv (.int y :: .int x :: st) h := by
  intro p e s m args below meth c C H locs ls hR hL hl
  exact lv_ishr C.1.1 C.1.2.1 hd (k p e s m args below meth c C H locs ls hR hL hl)
theorem kt_iushr {x y : Int32} (hd : decode f.2.2.1.2.1 pc = .ok (.iushr, 1)) (k : kt_X f cells slots (pc + 1) lv (.int (x.toUInt32 >>> (y.toUInt32 &&& Int32.toUInt32 31)).toInt32 :: st) h) : kt_X f cells slots pc lv (.int y :: .int x :: st) h := by
  intro p e s m args below meth c C H locs ls hR hL hl
  exact lv_iushr C.1.1 C.1.2.1 hd rfl (k p e s m args below meth c C H locs ls hR hL hl)
theorem kt_lushr {x : Int64} {y : Int32} (hd : decode f.2.2.1.2.1 pc = .ok (.lushr, 1)) (k : kt_X f cells slots (pc + 1) lv (.long (x.toUInt64 >>> (y.toInt64.toUInt64 &&& Int64.toUInt64 63)).toInt64 :: st) h) : kt_X f cells slots pc lv (.int y :: .long x :: st) h := by
  intro p e s m args below meth c C H locs ls hR hL hl
  exact lv_lushr C.1.1 C.1.2.1 hd rfl (k p e s m args below meth c C H locs ls hR hL hl)
theorem kt_lshl {x : Int64} {y : Int32} (hd : decode f.2.2.1.2.1 pc = .ok (.lshl, 1)) (k : kt_X f cells slots (pc + 1) lv (.long (x <<< (y.toInt64 &&& 63)) :: st) h) : kt_X f cells slots pc lv (.int y :: .long x :: st) h := by
  intro p e s m args below meth c C H locs ls hR hL hl
  exact lv_lshl C.1.1 C.1.2.1 hd rfl (k p e s m args below meth c C H locs ls hR hL hl)
theorem kt_lshr {x : Int64} {y : Int32} (hd : decode f.2.2.1.2.1 pc = .ok (.lshr, 1)) (k : kt_X f cells slots (pc + 1) lv (.long (x >>> (y.toInt64 &&& 63)) :: st) h) : kt_X f cells slots pc lv (.int y :: .long x :: st) h := by
  intro p e s m args below meth c C H locs ls hR hL hl
  exact lv_lshr C.1.1 C.1.2.1 hd rfl (k p e s m args below meth c C H locs ls hR hL hl)
theorem kt_i2l {x : Int32} (hd : decode f.2.2.1.2.1 pc = .ok (.i2l, 1)) (k : kt_X f cells slots (pc + 1) lv (.long x.toInt64 :: st) h) : kt_X f cells slots pc lv (.int x :: st) h := by
  intro p e s m args below meth c C H locs ls hR hL hl
  exact lv_i2l C.1.1 C.1.2.1 hd rfl (k p e s m args below meth c C H locs ls hR hL hl)
theorem kt_l2i {x : Int64} (hd : decode f.2.2.1.2.1 pc = .ok (.l2i, 1)) (k : kt_X f cells slots (pc + 1) lv (.int x.toInt32 :: st) h) : kt_X f cells slots pc lv (.long x :: st) h := by
  intro p e s m args below meth c C H locs ls hR hL hl
  exact lv_l2i C.1.1 C.1.2.1 hd rfl (k p e s m args below meth c C H locs ls hR hL hl)
theorem kt_i2b {x : Int32} (hd : decode f.2.2.1.2.1 pc = .ok (.i2b, 1)) (k : kt_X f cells slots (pc + 1) lv (.int x.toInt8.toInt32 :: st) h) : kt_X f cells slots pc lv (.int x :: st) h := by
  intro p e s m args below meth c C H locs ls hR hL hl
  exact lv_i2b C.1.1 C.1.2.1 hd rfl (k p e s m args below meth c C H locs ls hR hL hl)
theorem kt_i2c {x : Int32} (hd : decode f.2.2.1.2.1 pc = .ok (.i2c, 1)) (k : kt_X f cells slots (pc + 1) lv (.int (x.toUInt32 % 65536).toInt32 :: st) h) : kt_X f cells slots pc lv (.int x :: st) h := by
  intro p e s m args below meth c C H locs ls hR hL hl
  exact lv_i2c C.1.1 C.1.2.1 hd rfl (k p e s m args below meth c C H locs ls hR hL hl)
theorem kt_dup {v : Value} (hd : decode f.2.2.1.2.1 pc = .ok (.dup, 1)) (hc : v.category = 1) (k : kt_X f cells slots (pc + 1) lv (v :: v :: st) h) : kt_X f cells slots pc lv (v :: st) h := by
  intro p e s m args below meth c C H locs ls hR hL hl
  exact lv_dup C.1.1 C.1.2.1 hd ((kx_cv_cat _ _).trans hc) (k p e s m args below meth c C H locs ls hR hL hl)
theorem kt_pop {v : Value} (hd : decode f.2.2.1.2.1 pc = .ok (.pop, 1)) (hc : v.category = 1) (k : kt_X f cells slots (pc + 1) lv st h) : kt_X f cells slots pc lv (v :: st) h := by
  intro p e s m args below meth c C H locs ls hR hL hl
  exact lv_pop C.1.1 C.1.2.1 hd ((kx_cv_cat _ _).trans hc) (k p e s m args below meth c C H locs ls hR hL hl)
theorem kt_dup_x1 {v w : Value} (hd : decode f.2.2.1.2.1 pc = .ok (.dup_x1, 1)) (hc : v.category = 1) (hc2 : w.category = 1) (k : kt_X f cells slots (pc + 1) lv (v :: w :: v :: st) h) : kt_X f cells slots pc lv (v :: w :: st) h := by
  intro p e s m args below meth c C H locs ls hR hL hl
  exact lv_dup_x1 C.1.1 C.1.2.1 hd ((kx_cv_cat _ _).trans hc) ((kx_cv_cat _ _).trans hc2) (k p e s m args below meth c C H locs ls hR hL hl)
theorem kt_dup2 {v w : Value} (hd : decode f.2.2.1.2.1 pc = .ok (.dup2, 1)) (hc : v.category = 1) (hc2 : w.category = 1) (k : kt_X f cells slots (pc + 1) lv (v :: w :: v :: w :: st) h) : kt_X f cells slots pc lv (v :: w :: st) h := by
  intro p e s m args below meth c C H locs ls hR hL hl
  exact lv_dup2_11 C.1.1 C.1.2.1 hd ((kx_cv_cat _ _).trans hc) ((kx_cv_cat _ _).trans hc2) (k p e s m args below meth c C H locs ls hR hL hl)
theorem kt_icmp_eq {x y : Int32} {off : Int} {tgt : Nat} (hd : decode f.2.2.1.2.1 pc = .ok (.if_icmp .eq off, 3)) (ht : (pc : Int) + off = (tgt : Int)) (kt : x = y → kt_X f cells slots tgt lv st h) (kf : ¬ x = y → kt_X f cells slots (pc + 3) lv st h) : kt_X f cells slots pc lv (.int y :: .int x :: st) h := by
  intro p e s m args below meth c C H locs ls hR hL hl
  exact lv_icmp_eq C.1.1 C.1.2.1 hd ht (fun q => kt q p e s m args below meth c C H locs ls hR hL hl) (fun q => kf q p e s m args below meth c C H locs ls hR hL hl)
theorem kt_if_eq {x : Int32} {off : Int} {tgt : Nat} (hd : decode f.2.2.1.2.1 pc = .ok (.ifCond .eq off, 3)) (ht : (pc : Int) + off = (tgt : Int)) (kt : x = 0 → kt_X f cells slots tgt lv st h) (kf : ¬ x = 0 → kt_X f cells slots (pc + 3) lv st h) : kt_X f cells slots pc lv (.int x :: st) h := by
  intro p e s m args below meth c C H locs ls hR hL hl
  exact lv_if_eq C.1.1 C.1.2.1 hd ht (fun q => kt q p e s m args below meth c C H locs ls hR hL hl) (fun q => kf q p e s m args below meth c C H locs ls hR hL hl)
theorem kt_icmp_ne {x y : Int32} {off : Int} {tgt : Nat} (hd : decode f.2.2.1.2.1 pc = .ok (.if_icmp .ne off, 3)) (ht : (pc : Int) + off = (tgt : Int)) (kt : ¬ x = y → kt_X f cells slots tgt lv st h) (kf : x = y → kt_X f cells slots (pc + 3) lv st h) : kt_X f cells slots pc lv (.int y :: .int x :: st) h := by
  intro p e s m args below meth c C H locs ls hR hL hl
  exact lv_icmp_ne C.1.1 C.1.2.1 hd ht (fun q => kt q p e s m args below meth c C H locs ls hR hL hl) (fun q => kf q p e s m args below meth c C H locs ls hR hL hl)
theorem kt_if_ne {x : Int32} {off : Int} {tgt : Nat} (hd : decode f.2.2.1.2.1 pc = .ok (.ifCond .ne off, 3)) (ht : (pc : Int) + off = (tgt : Int)) (kt : ¬ x = 0 → kt_X f cells slots tgt lv st h) (kf : x = 0 → kt_X f cells slots (pc + 3) lv st h) : kt_X f cells slots pc lv (.int x :: st) h := by
  intro p e s m args below meth c C H locs ls hR hL hl
  exact lv_if_ne C.1.1 C.1.2.1 hd ht (fun q => kt q p e s m args below meth c C H locs ls hR hL hl) (fun q => kf q p e s m args below meth c C H locs ls hR hL hl)
theorem kt_icmp_lt {x y : Int32} {off : Int} {tgt : Nat} (hd : decode f.2.2.1.2.1 pc = .ok (.if_icmp .lt off, 3)) (ht : (pc : Int) + off = (tgt : Int)) (kt : x < y → kt_X f cells slots tgt lv st h) (kf : ¬ x < y → kt_X f cells slots (pc + 3) lv st h) : kt_X f cells slots pc lv (.int y :: .int x :: st) h := by
  intro p e s m args below meth c C H locs ls hR hL hl
  exact lv_icmp_lt C.1.1 C.1.2.1 hd ht (fun q => kt q p e s m args below meth c C H locs ls hR hL hl) (fun q => kf q p e s m args below meth c C H locs ls hR hL hl)
theorem kt_if_lt {x : Int32} {off : Int} {tgt : Nat} (hd : decode f.2.2.1.2.1 pc = .ok (.ifCond .lt off, 3)) (ht : (pc : Int) + off = (tgt : Int)) (kt : x < 0 → kt_X f cells slots tgt lv st h) (kf : ¬ x < 0 → kt_X f cells slots (pc + 3) lv st h) : kt_X f cells slots pc lv (.int x :: st) h := by
  intro p e s m args below meth c C H locs ls hR hL hl
  exact lv_if_lt C.1.1 C.1.2.1 hd ht (fun q => kt q p e s m args below meth c C H locs ls hR hL hl) (fun q => kf q p e s m args below meth c C H locs ls hR hL hl)
theorem kt_icmp_ge {x y : Int32} {off : Int} {tgt : Nat} (hd : decode f.2.2.1.2.1 pc = .ok (.if_icmp .ge off, 3)) (ht : (pc : Int) + off = (tgt : Int)) (kt : y ≤ x → kt_X f cells slots tgt lv st h) (kf : ¬ y ≤ x → kt_X f cells slots (pc + 3) lv st h) : kt_X f cells slots pc lv (.int y :: .int x :: st) h := by
  intro p e s m args below meth c C H locs ls hR hL hl
  exact lv_icmp_ge C.1.1 C.1.2.1 hd ht (fun q => kt q p e s m args below meth c C H locs ls hR hL hl) (fun q => kf q p e s m args below meth c C H locs ls hR hL hl)
theorem kt_if_ge {x : Int32} {off : Int} {tgt : Nat} (hd : decode f.2.2.1.2.1 pc = .ok (.ifCond .ge off, 3)) (ht : (pc : Int) + off = (tgt : Int)) (kt : 0 ≤ x → kt_X f cells slots tgt lv st h) (kf : ¬ 0 ≤ x → kt_X f cells slots (pc + 3) lv st h) : kt_X f cells slots pc lv (.int x :: st) h := by
  intro p e s m args below meth c C H locs ls hR hL hl
  exact lv_if_ge C.1.1 C.1.2.1 hd ht (fun q => kt q p e s m args below meth c C H locs ls hR hL hl) (fun q => kf q p e s m args below meth c C H locs ls hR hL hl)
theorem kt_icmp_gt {x y : Int32} {off : Int} {tgt : Nat} (hd : decode f.2.2.1.2.1 pc = .ok (.if_icmp .gt off, 3)) (ht : (pc : Int) + off = (tgt : Int)) (kt : y < x → kt_X f cells slots tgt lv st h) (kf : ¬ y < x → kt_X f cells slots (pc + 3) lv st h) : kt_X f cells slots pc lv (.int y :: .int x :: st) h := by
  intro p e s m args below meth c C H locs ls hR hL hl
  exact lv_icmp_gt C.1.1 C.1.2.1 hd ht (fun q => kt q p e s m args below meth c C H locs ls hR hL hl) (fun q => kf q p e s m args below meth c C H locs ls hR hL hl)
theorem kt_if_gt {x : Int32} {off : Int} {tgt : Nat} (hd : decode f.2.2.1.2.1 pc = .ok (.ifCond .gt off, 3)) (ht : (pc : Int) + off = (tgt : Int)) (kt : 0 < x → kt_X f cells slots tgt lv st h) (kf : ¬ 0 < x → kt_X f cells slots (pc + 3) lv st h) : kt_X f cells slots pc lv (.int x :: st) h := by
  intro p e s m args below meth c C H locs ls hR hL hl
  exact lv_if_gt C.1.1 C.1.2.1 hd ht (fun q => kt q p e s m args below meth c C H locs ls hR hL hl) (fun q => kf q p e s m args below meth c C H locs ls hR hL hl)
theorem kt_icmp_le {x y : Int32} {off : Int} {tgt : Nat} (hd : decode f.2.2.1.2.1 pc = .ok (.if_icmp .le off, 3)) (ht : (pc : Int) + off = (tgt : Int)) (kt : x ≤ y → kt_X f cells slots tgt lv st h) (kf : ¬ x ≤ y → kt_X f cells slots (pc + 3) lv st h) : kt_X f cells slots pc lv (.int y :: .int x :: st) h := by
  intro p e s m args below meth c C H locs ls hR hL hl
  exact lv_icmp_le C.1.1 C.1.2.1 hd ht (fun q => kt q p e s m args below meth c C H locs ls hR hL hl) (fun q => kf q p e s m args below meth c C H locs ls hR hL hl)
theorem kt_if_le {x : Int32} {off : Int} {tgt : Nat} (hd : decode f.2.2.1.2.1 pc = .ok (.ifCond .le off, 3)) (ht : (pc : Int) + off = (tgt : Int)) (kt : x ≤ 0 → kt_X f cells slots tgt lv st h) (kf : ¬ x ≤ 0 → kt_X f cells slots (pc + 3) lv st h) : kt_X f cells slots pc lv (.int x :: st) h := by
  intro p e s m args below meth c C H locs ls hR hL hl
  exact lv_if_le C.1.1 C.1.2.1 hd ht (fun q => kt q p e s m args below meth c C H locs ls hR hL hl) (fun q => kf q p e s m args below meth c C H locs ls hR hL hl)
theorem kt_goto {off : Int} {tgt : Nat} (hd : decode f.2.2.1.2.1 pc = .ok (.goto off, 3)) (ht : (pc : Int) + off = (tgt : Int)) (k : kt_X f cells slots tgt lv st h) : kt_X f cells slots pc lv st h := by
  intro p e s m args below meth c C H locs ls hR hL hl
  exact lv_goto C.1.1 C.1.2.1 hd ht (k p e s m args below meth c C H locs ls hR hL hl)
theorem kt_ifnull {x : Nat} {off : Int} (hd : decode f.2.2.1.2.1 pc = .ok (.ifnull off, 3)) (k : kt_X f cells slots (pc + 3) lv (st) h) : kt_X f cells slots pc lv (.ref x :: st) h := by
  intro p e s m args below meth c C H locs ls hR hL hl
  exact lv_ifnull C.1.1 C.1.2.1 hd (k p e s m args below meth c C H locs ls hR hL hl)
theorem kt_ifnonnullN {off : Int} (hd : decode f.2.2.1.2.1 pc = .ok (.ifnonnull off, 3)) (k : kt_X f cells slots (pc + 3) lv (st) h) : kt_X f cells slots pc lv (.null :: st) h := by
  intro p e s m args below meth c C H locs ls hR hL hl
  exact lv_ifnonnullN C.1.1 C.1.2.1 hd (k p e s m args below meth c C H locs ls hR hL hl)
theorem kt_ifnonnull {x : Nat} {off : Int} {tgt : Nat} (hd : decode f.2.2.1.2.1 pc = .ok (.ifnonnull off, 3)) (ht : (pc : Int) + off = (tgt : Int)) (k : kt_X f cells slots tgt lv st h) : kt_X f cells slots pc lv (.ref x :: st) h := by
  intro p e s m args below meth c C H locs ls hR hL hl
  exact lv_ifnonnull C.1.1 C.1.2.1 hd ht (k p e s m args below meth c C H locs ls hR hL hl)
theorem kt_ifnullN {off : Int} {tgt : Nat} (hd : decode f.2.2.1.2.1 pc = .ok (.ifnull off, 3)) (ht : (pc : Int) + off = (tgt : Int)) (k : kt_X f cells slots tgt lv st h) : kt_X f cells slots pc lv (.null :: st) h := by
  intro p e s m args below meth c C H locs ls hR hL hl
  exact lv_ifnullN C.1.1 C.1.2.1 hd ht (k p e s m args below meth c C H locs ls hR hL hl)
theorem kt_lcmp {x y : Int64} (hd : decode f.2.2.1.2.1 pc = .ok (.lcmp, 1)) (k : kt_X f cells slots (pc + 1) lv (.int (lg_cmp x y) :: st) h) : kt_X f cells slots pc lv (.long y :: .long x :: st) h := by
  intro p e s m args below meth c C H locs ls hR hL hl
  exact W.lcmp C.1.1 C.1.2.1 hd (k p e s m args below meth c C H locs ls hR hL hl)
theorem kt_tableOut {dflt lo hi : Int} {offs : Array Int} {len : Nat} {x : Int32} {tgt : Nat} (hd : decode f.2.2.1.2.1 pc = .ok (.tableswitch dflt lo hi offs, len)) (hx : x.toInt < lo ∨ hi < x.toInt) (ht : (pc : Int) + dflt = (tgt : Int)) (k : kt_X f cells slots tgt lv st h) : kt_X f cells slots pc lv (.int x :: st) h := by
  intro p e s m args below meth c C H locs ls hR hL hl
  exact lv_tableOut C.1.1 C.1.2.1 hd hx ht (k p e s m args below meth c C H locs ls hR hL hl)
theorem kt_tableIn {dflt lo hi : Int} {offs : Array Int} {len : Nat} {x : Int32} {off : Int} {tgt : Nat} (hd : decode f.2.2.1.2.1 pc = .ok (.tableswitch dflt lo hi offs, len)) (h1 : ¬ x.toInt < lo) (h2 : ¬ hi < x.toInt) (ho : offs[(x.toInt - lo).toNat]? = some off) (ht : (pc : Int) + off = (tgt : Int)) (k : kt_X f cells slots tgt lv st h) : kt_X f cells slots pc lv (.int x :: st) h := by
  intro p e s m args below meth c C H locs ls hR hL hl
  exact lv_tableIn C.1.1 C.1.2.1 hd h1 h2 ho ht (k p e s m args below meth c C H locs ls hR hL hl)
theorem kt_lookup {dflt : Int} {ps : Array (Int × Int)} {len : Nat} {x : Int32} {off : Int} {tgt : Nat} (hd : decode f.2.2.1.2.1 pc = .ok (.lookupswitch dflt ps, len)) (hp : (ps.toList.zip (ps.toList.drop 1)).all (fun (a, next) => a.1 < next.1) = true) (ho : Op.lookupswitch.offset ps.toList dflt x.toInt = off) (ht : (pc : Int) + off = (tgt : Int)) (k : kt_X f cells slots tgt lv st h) : kt_X f cells slots pc lv (.int x :: st) h := by
  intro p e s m args below meth c C H locs ls hR hL hl
  exact lv_lookup C.1.1 C.1.2.1 hd hp ho ht (k p e s m args below meth c C H locs ls hR hL hl)
theorem kt_ldc {index : Nat} {v : Int32} (hw : Cond.constant f.2.2.1.1.cls index v ∈ kx_good) (hd : decode f.2.2.1.2.1 pc = .ok (.ldc index, 2)) (k : kt_X f cells slots (pc + 2) lv (.int v :: st) h) : kt_X f cells slots pc lv st h := by
  intro p e s m args below meth c C H locs ls hR hL hl
  exact lv_ldc C.1.1 C.1.2.1 C.1.2.2.2.2.1 (C.1.2.2.2.2.2.1 _ hw) hd (k p e s m args below meth c C H locs ls hR hL hl)
theorem kt_ldcw {index : Nat} {v : Int32} (hw : Cond.constant f.2.2.1.1.cls index v ∈ kx_good) (hd : decode f.2.2.1.2.1 pc = .ok (.ldc_w index, 3)) (k : kt_X f cells slots (pc + 3) lv (.int v :: st) h) : kt_X f cells slots pc lv st h := by
  intro p e s m args below meth c C H locs ls hR hL hl
  exact lv_ldcw C.1.1 C.1.2.1 C.1.2.2.2.2.1 (C.1.2.2.2.2.2.1 _ hw) hd (k p e s m args below meth c C H locs ls hR hL hl)
theorem kt_ldc2 {index : Nat} {v : Int64} (hw : Cond.constantLong f.2.2.1.1.cls index v ∈ kx_good) (hd : decode f.2.2.1.2.1 pc = .ok (.ldc2_w index, 3)) (k : kt_X f cells slots (pc + 3) lv (.long v :: st) h) : kt_X f cells slots pc lv st h := by
  intro p e s m args below meth c C H locs ls hR hL hl
  exact lv_ldc2 C.1.1 C.1.2.1 C.1.2.2.2.2.1 (C.1.2.2.2.2.2.1 _ hw) hd (k p e s m args below meth c C H locs ls hR hL hl)
end KTR
section KTH
variable {f : kt_F} {cells slots pc : Nat} {lv : List (Option Value)} {st : List Value} {h : kx_Mem}
theorem kt_getf {a idx ci j : Nat} (hf : kx_FL f.2.2.1.1.cls idx ci j) (hk : (h.2.2.2.1 a).1 = ci + 1) (hd : decode f.2.2.1.2.1 pc = .ok (.getfield idx, 3)) (k : kt_X f cells slots (pc + 3) lv (kx_mv h (kx_ty ci j) a j :: st) h) : kt_X f cells slots pc lv (.ref a :: st) h := by
  intro p e s m args below meth c C H locs ls hR hL hl
  obtain ⟨r, ref, hc, hj, hlk, hsm⟩ := hf
  obtain ⟨cell, q1, q2, q3, q4⟩ := (hR.2.2.2.2 a).1 ci r hk hc
  obtain ⟨hx, hb, -, -, hown, hts, -, -, hK⟩ := id C.1
  obtain ⟨hS, hfc, kC, hkC, hkind⟩ := hK.1.1 ci _ hc
  obtain ⟨cf, kf, fi, fd, hi, hsl⟩ := hS j hj
  have hst := (u_facts hfc hkC (u_lays hts (kx_cw ci r hc).1 hj) hi).1
  have hsame := kx_FL.same hts hsm _ hi
  have hv : cell.slots[fd.slot]? = some (kx_cv f.2.1 (kx_mv h (kx_ty ci j) a j)) := by rw [hsl]; exact q4 j hj
  rcases hlk with hlk | ⟨host, hlk⟩
  · exact W.getf hx hb hown (hts _ hlk) hsame hst q1 (by rw [q3]; exact fun h => by cases h) hv rfl rfl hd (k p e s m args below meth c C H locs ls hR hL hl)
  · exact va_Wgetf hx hb hown (va_Nw.use rfl (hK.2.2.1 _ hlk)) hsame hst q1 (by rw [q3]; exact fun h => by cases h) hv rfl rfl hd (k p e s m args below meth c C H locs ls hR hL hl)
theorem kt_putf {a idx ci j : Nat} {v : Value} {h' : kx_Mem} (hf : kx_FL f.2.2.1.1.cls idx ci j) (hk : (h.2.2.2.1 a).1 = ci + 1) (ha : a < 1000000) (hfin : (∀ r, kx_cl[ci]? = some r → (r.2.1 j).2.2.2 = false) ∨ (f.2.2.1.1.name = "<init>" ∧ ∀ r, kx_cl[ci]? = some r → (r.2.1 j).2.2.2 = true ∧ (r.2.1 j).1 = f.2.2.1.1.cls))
    (hn : narrow (kx_ty ci j) (kx_cv f.2.1 v) = kx_cv f.2.1 v) (hfit : fits (kx_ty ci j) (kx_cv f.2.1 v) = true) (hT : h'.2.2.2 = h.2.2.2) (hm : ∀ (ty : FieldType) (b k : Nat), b ≠ a → kx_mv h' ty b k = kx_mv h ty b k)
    (hm2 : ∀ k, kx_mv h' (kx_ty ci k) a k = if k = j then v else kx_mv h (kx_ty ci k) a k)
    (hd : decode f.2.2.1.2.1 pc = .ok (.putfield idx, 3)) (k : kt_X f cells slots (pc + 3) lv st h') : kt_X f cells slots pc lv (v :: .ref a :: st) h := by
  intro p e s m args below meth c C H locs ls hR hL hl
  obtain ⟨r, ref, hc, hj, hlk, hsm⟩ := hf
  obtain ⟨cell, q1, q2, q3, q4⟩ := (hR.2.2.2.2 a).1 ci r hk hc
  obtain ⟨hx, hb, -, -, hown, hts, -, hnm, hK⟩ := id C.1
  have hap := kx_apart hts hK hc
  obtain ⟨hS, hfc, kC, hkC, hkind⟩ := hK.1.1 ci _ hc
  obtain ⟨cf, kf, fi, fd, hi, hsl⟩ := hS j hj
  have hcw := kx_cw ci r hc
  have hst := (u_facts hfc hkC (u_lays hts hcw.1 hj) hi).1
  have hsame := kx_FL.same hts hsm _ hi
  have hlay := hts _ (hcw.1 _ (u_in_lay hj))
  have hd2 := hcw.2.1 j hj
  have hbase : f.2.1.2.2.1 ≤ kx_ad f.2.1 a := by unfold kx_ad; rw [if_pos ha]; omega
  have goal : ∀ H' : Heap, H'[kx_ad f.2.1 a]? = some (cell.setSlot fd.slot (kx_cv f.2.1 v)) → H'.size = H.size → (∀ q : Nat, q ≠ kx_ad f.2.1 a → H'[q]? = H[q]?) → kx_Rel f.2.1 h' H' := by
    intro H' e1 e2 e3
    refine hR.one hT ha e2 e3 hm ⟨fun ci' r' hk' hc' => ?_, fun hk' => ?_⟩
    · rw [hT] at hk'
      have hci : ci' = ci := by omega
      subst hci
      cases hc.symm.trans hc'
      rw [hsl] at e1
      refine t_OB.to (V := updV (fun j => kx_cv f.2.1 (kx_mv h (kx_ty ci' j) a j)) j (kx_cv f.2.1 v)) ⟨_, e1, q2, q3, t_set q4 hap hj (kx_cv f.2.1 v)⟩ (fun j' _ => ?_)
      rw [hm2 j']
      unfold updV
      split <;> rfl
    · rw [hT] at hk'
      have : ci < kx_cl.length := (List.getElem?_eq_some_iff.mp hc).1
      have h15 : kx_cl.length = 15 := rfl
      omega
  have hL' : ∀ q ∈ locs ++ [(⟨kx_ad f.2.1 a, fd.slot⟩ : Loc)], f.2.1.2.2.1 ≤ q.base := by
    intro q hq
    rcases List.mem_append.mp hq with hq | hq
    · exact hL q hq
    · rw [List.mem_singleton.mp hq]; exact hbase
  have hlt : fd.slot < cell.slots.size := by rw [hsl]; exact k2_hasslot (q4 j hj)
  unfold u_lay at hlay
  rcases hfin with hfin | ⟨hin, hfin⟩
  · rw [if_neg (by rw [hfin r hc]; decide)] at hlay
    have h6 := u_store hfc hkC hkind hlay hi hd2 hn hfit
    rcases hlk with hlk | ⟨host, hlk⟩
    · exact W.putK hx hb (f := fd) ⟨hown, hts _ hlk, ⟨_, _, _, hsame⟩, hst⟩ (by rw [q2]; exact h6) q1 q3 hlt rfl rfl hd fun H' e1 e2 e3 => k p e s m args below meth c C H' _ ls (goal H' e1 e2 e3) hL' hl
    · exact va_WputK hx hb (f := fd) hown (va_Nw.use rfl (hK.2.2.1 _ hlk)) hsame hst (by rw [q2]; exact h6) q1 q3 hlt rfl rfl hd fun H' e1 e2 e3 => k p e s m args below meth c C H' _ ls (goal H' e1 e2 e3) hL' hl
  · obtain ⟨hfin1, hdecl⟩ := hfin r hc
    rw [if_pos hfin1] at hlay
    have hcf : m.cls = cf := by
      obtain ⟨_, _, c', _, _, _, -, -, hf', -, -, -, hown2, -⟩ := Cond.laysFinal_spec hlay
      have e1 : c' = cf := by have := hi.symm.trans hf'; simp at this; exact this.1.symm
      rw [hdecl] at hown2
      rw [← e1]; exact Option.some.inj (hown.symm.trans hown2)
    have h6 := u_fits hfc hkC hkind (Or.inr hlay) hi hd2 hn hfit
    rcases hlk with hlk | ⟨host, hlk⟩
    · exact W.putFinK hx hb hown (hts _ hlk) hsame hst hcf (hnm.trans hin) (by rw [q2]; exact h6) q1 q3 hlt rfl rfl hd fun H' e1 e2 e3 => k p e s m args below meth c C H' _ ls (goal H' e1 e2 e3) hL' hl
    · refine va_Wputf hx hb hown (va_Nw.use rfl (hK.2.2.1 _ hlk)) hsame hst (Or.inr ⟨hcf, hnm.trans hin⟩) q1 (by rw [q3]; exact fun h => by cases h) hlt h6.1 (by rw [q2, q3]; exact h6.2) rfl rfl hd ?_
      have hlt2 : kx_ad f.2.1 a < H.size := (Array.getElem?_eq_some_iff.mp q1).1
      exact k p e s m args below meth c C _ _ ls (goal _ (by simp [Array.getElem?_setIfInBounds, hlt2]) (by simp) (fun q hq => by simp [Array.getElem?_setIfInBounds, Ne.symm hq])) hL' hl
theorem kt_putI {a idx ci j : Nat} {v : Int32} (hf : kx_FL f.2.2.1.1.cls idx ci j) (hk : (h.2.2.2.1 a).1 = ci + 1) (ha : a < 1000000) (hw : kx_wr f.2.2.1 ci j = true) (hty : kx_ty ci j = .int) (hd : decode f.2.2.1.2.1 pc = .ok (.putfield idx, 3)) (k : kt_X f cells slots (pc + 3) lv st (kx_setI h a j v)) : kt_X f cells slots pc lv (.int v :: .ref a :: st) h := by
  refine kt_putf (h' := kx_setI h a j v) hf hk ha (kx_wr_spec hw) (by rw [hty]; rfl) (by rw [hty]; rfl) rfl (fun _ _ _ hb => kx_mv_setI hb) (fun k9 => ?_) hd k
  by_cases hkj : k9 = j
  · subst hkj
    rw [if_pos rfl, hty]
    simp [kx_mv, kx_setI, kx_up_at]
  · rw [if_neg hkj]
    unfold kx_mv kx_setI
    split <;> simp [kx_up_at, hkj]
theorem kt_putL {a idx ci j : Nat} {v : Int64} (hf : kx_FL f.2.2.1.1.cls idx ci j) (hk : (h.2.2.2.1 a).1 = ci + 1) (ha : a < 1000000) (hw : kx_wr f.2.2.1 ci j = true) (hty : kx_ty ci j = .long) (hd : decode f.2.2.1.2.1 pc = .ok (.putfield idx, 3)) (k : kt_X f cells slots (pc + 3) lv st (kx_setL h a j v)) : kt_X f cells slots pc lv (.long v :: .ref a :: st) h := by
  refine kt_putf (h' := kx_setL h a j v) hf hk ha (kx_wr_spec hw) (by rw [hty]; rfl) (by rw [hty]; rfl) rfl (fun _ _ _ hb => kx_mv_setL hb) (fun k9 => ?_) hd k
  by_cases hkj : k9 = j
  · subst hkj
    rw [if_pos rfl, hty]
    simp [kx_mv, kx_setL, kx_up_at]
  · rw [if_neg hkj]
    unfold kx_mv kx_setL
    split <;> simp [kx_up_at, hkj]
theorem kt_putR {a idx ci j : Nat} {v : Option Nat} (hf : kx_FL f.2.2.1.1.cls idx ci j) (hk : (h.2.2.2.1 a).1 = ci + 1) (ha : a < 1000000) (hw : kx_wr f.2.2.1 ci j = true) (hty : (kx_ty ci j).isReference = true) (hd : decode f.2.2.1.2.1 pc = .ok (.putfield idx, 3)) (k : kt_X f cells slots (pc + 3) lv st (kx_setR h a j v)) : kt_X f cells slots pc lv (kx_rf v :: .ref a :: st) h := by
  have hty' : (∃ n, kx_ty ci j = .object n) ∨ ∃ t, kx_ty ci j = .array t := by
    revert hty
    cases kx_ty ci j <;> simp [FieldType.isReference]
  refine kt_putf (h' := kx_setR h a j v) hf hk ha (kx_wr_spec hw) ?_ ?_ rfl (fun _ _ _ hb => kx_mv_setR hb) (fun k9 => ?_) hd k
  · rcases hty' with ⟨n, e⟩ | ⟨t, e⟩ <;> rw [e] <;> cases v <;> rfl
  · rcases hty' with ⟨n, e⟩ | ⟨t, e⟩ <;> rw [e] <;> cases v <;> rfl
  · by_cases hkj : k9 = j
    · subst hkj
      rw [if_pos rfl]
      rcases hty' with ⟨n, e⟩ | ⟨t, e⟩ <;> rw [e] <;> simp [kx_mv, kx_setR, kx_up_at]
    · rw [if_neg hkj]
      unfold kx_mv kx_setR
      split <;> simp [kx_up_at, hkj]
end KTH
section KTA
variable {f : kt_F} {cells slots pc : Nat} {lv : List (Option Value)} {st : List Value} {h : kx_Mem}
theorem kt_iald {a : Nat} {i : Int32} (hk : (h.2.2.2.1 a).1 = 50) (hin : vp_in i (h.2.2.2.1 a).2) (hd : decode f.2.2.1.2.1 pc = .ok (.iaload, 1)) (k : kt_X f cells slots (pc + 1) lv (.int (h.1 a i.toNatClampNeg) :: st) h) : kt_X f cells slots pc lv (.int i :: .ref a :: st) h := by
  intro p e s m args below meth c C H locs ls hR hL hl
  have hlt : i.toNatClampNeg < (h.2.2.2.1 a).2 := Nat.not_le.mp fun q => hin (Or.inr q)
  exact W.iald (v := kx_cv f.2.1 (.int (h.1 a i.toNatClampNeg))) C.1.1 C.1.2.1 (kx_at.arr hR hk (by decide)) ((C.1.2.2.2.2.2.2.2.2.2.1 50 (by decide) (by decide)).1 _ _) (fun q => by cases q) (by rw [arrV_size]; exact hin) (by rw [arrV_read _ _ hlt]; rfl) rfl rfl hd (k p e s m args below meth c C H locs ls hR hL hl)
theorem kt_lald {a : Nat} {i : Int32} (hk : (h.2.2.2.1 a).1 = 51) (hin : vp_in i (h.2.2.2.1 a).2) (hd : decode f.2.2.1.2.1 pc = .ok (.laload, 1)) (k : kt_X f cells slots (pc + 1) lv (.long (h.2.1 a i.toNatClampNeg) :: st) h) : kt_X f cells slots pc lv (.int i :: .ref a :: st) h := by
  intro p e s m args below meth c C H locs ls hR hL hl
  have hlt : i.toNatClampNeg < (h.2.2.2.1 a).2 := Nat.not_le.mp fun q => hin (Or.inr q)
  exact W.lald (v := kx_cv f.2.1 (.long (h.2.1 a i.toNatClampNeg))) C.1.1 C.1.2.1 (kx_at.arr hR hk (by decide)) ((C.1.2.2.2.2.2.2.2.2.2.1 51 (by decide) (by decide)).1 _ _) (fun q => by cases q) (by rw [arrV_size]; exact hin) (by rw [arrV_read _ _ hlt]; rfl) rfl rfl hd (k p e s m args below meth c C H locs ls hR hL hl)
theorem kt_bald {a : Nat} {i : Int32} (hk : (h.2.2.2.1 a).1 = 52) (hin : vp_in i (h.2.2.2.1 a).2) (hd : decode f.2.2.1.2.1 pc = .ok (.baload, 1)) (k : kt_X f cells slots (pc + 1) lv (.int (h.1 a i.toNatClampNeg) :: st) h) : kt_X f cells slots pc lv (.int i :: .ref a :: st) h := by
  intro p e s m args below meth c C H locs ls hR hL hl
  have hlt : i.toNatClampNeg < (h.2.2.2.1 a).2 := Nat.not_le.mp fun q => hin (Or.inr q)
  exact W.bald (v := kx_cv f.2.1 (.int (h.1 a i.toNatClampNeg))) C.1.1 C.1.2.1 (kx_at.arr hR hk (by decide)) ((C.1.2.2.2.2.2.2.2.2.2.1 52 (by decide) (by decide)).1 _ _) (fun q => by cases q) (by rw [arrV_size]; exact hin) (by rw [arrV_read _ _ hlt]; rfl) rfl rfl hd (k p e s m args below meth c C H locs ls hR hL hl)
theorem kt_zald {a : Nat} {i : Int32} (hk : (h.2.2.2.1 a).1 = 53) (hin : vp_in i (h.2.2.2.1 a).2) (hd : decode f.2.2.1.2.1 pc = .ok (.baload, 1)) (k : kt_X f cells slots (pc + 1) lv (.int (h.1 a i.toNatClampNeg) :: st) h) : kt_X f cells slots pc lv (.int i :: .ref a :: st) h := by
  intro p e s m args below meth c C H locs ls hR hL hl
  have hlt : i.toNatClampNeg < (h.2.2.2.1 a).2 := Nat.not_le.mp fun q => hin (Or.inr q)
  exact W.zald (v := kx_cv f.2.1 (.int (h.1 a i.toNatClampNeg))) C.1.1 C.1.2.1 (kx_at.arr hR hk (by decide)) ((C.1.2.2.2.2.2.2.2.2.2.1 53 (by decide) (by decide)).1 _ _) (fun q => by cases q) (by rw [arrV_size]; exact hin) (by rw [arrV_read _ _ hlt]; rfl) rfl rfl hd (k p e s m args below meth c C H locs ls hR hL hl)
theorem kt_ald54 {a : Nat} {i : Int32} (hk : (h.2.2.2.1 a).1 = 54) (hin : vp_in i (h.2.2.2.1 a).2) (hd : decode f.2.2.1.2.1 pc = .ok (.aaload, 1)) (k : kt_X f cells slots (pc + 1) lv (kx_rf (h.2.2.1 a i.toNatClampNeg) :: st) h) : kt_X f cells slots pc lv (.int i :: .ref a :: st) h := by
  intro p e s m args below meth c C H locs ls hR hL hl
  have hlt : i.toNatClampNeg < (h.2.2.2.1 a).2 := Nat.not_le.mp fun q => hin (Or.inr q)
  exact W.aald (v := kx_cv f.2.1 (kx_rf (h.2.2.1 a i.toNatClampNeg))) C.1.1 C.1.2.1 (kx_at.arr hR hk (by decide)) ((C.1.2.2.2.2.2.2.2.2.2.1 54 (by decide) (by decide)).1 _ _) rfl (fun q => by cases q) (by rw [arrV_size]; exact hin) (by rw [arrV_read _ _ hlt]; rfl) rfl rfl hd (k p e s m args below meth c C H locs ls hR hL hl)
theorem kt_ald55 {a : Nat} {i : Int32} (hk : (h.2.2.2.1 a).1 = 55) (hin : vp_in i (h.2.2.2.1 a).2) (hd : decode f.2.2.1.2.1 pc = .ok (.aaload, 1)) (k : kt_X f cells slots (pc + 1) lv (kx_rf (h.2.2.1 a i.toNatClampNeg) :: st) h) : kt_X f cells slots pc lv (.int i :: .ref a :: st) h := by
  intro p e s m args below meth c C H locs ls hR hL hl
  have hlt : i.toNatClampNeg < (h.2.2.2.1 a).2 := Nat.not_le.mp fun q => hin (Or.inr q)
  exact W.aald (v := kx_cv f.2.1 (kx_rf (h.2.2.1 a i.toNatClampNeg))) C.1.1 C.1.2.1 (kx_at.arr hR hk (by decide)) ((C.1.2.2.2.2.2.2.2.2.2.1 55 (by decide) (by decide)).1 _ _) rfl (fun q => by cases q) (by rw [arrV_size]; exact hin) (by rw [arrV_read _ _ hlt]; rfl) rfl rfl hd (k p e s m args below meth c C H locs ls hR hL hl)
theorem kt_ald56 {a : Nat} {i : Int32} (hk : (h.2.2.2.1 a).1 = 56) (hin : vp_in i (h.2.2.2.1 a).2) (hd : decode f.2.2.1.2.1 pc = .ok (.aaload, 1)) (k : kt_X f cells slots (pc + 1) lv (kx_rf (h.2.2.1 a i.toNatClampNeg) :: st) h) : kt_X f cells slots pc lv (.int i :: .ref a :: st) h := by
  intro p e s m args below meth c C H locs ls hR hL hl
  have hlt : i.toNatClampNeg < (h.2.2.2.1 a).2 := Nat.not_le.mp fun q => hin (Or.inr q)
  exact W.aald (v := kx_cv f.2.1 (kx_rf (h.2.2.1 a i.toNatClampNeg))) C.1.1 C.1.2.1 (kx_at.arr hR hk (by decide)) ((C.1.2.2.2.2.2.2.2.2.2.1 56 (by decide) (by decide)).1 _ _) rfl (fun q => by cases q) (by rw [arrV_size]; exact hin) (by rw [arrV_read _ _ hlt]; rfl) rfl rfl hd (k p e s m args below meth c C H locs ls hR hL hl)
theorem kt_iast {a : Nat} {i : Int32} {x : Int32} (hk : (h.2.2.2.1 a).1 = 50) (ha : a < 1000000) (hin : vp_in i (h.2.2.2.1 a).2) (hd : decode f.2.2.1.2.1 pc = .ok (.iastore, 1)) (k : kt_X f cells slots (pc + 1) lv st (kx_setI h a i.toNatClampNeg (x))) : kt_X f cells slots pc lv (.int x :: .int i :: .ref a :: st) h := by
  intro p e s m args below meth c C H locs ls hR hL hl
  refine W.iast C.1.1 C.1.2.1 (kx_at.arr hR hk (by decide)) ((C.1.2.2.2.2.2.2.2.2.2.1 50 (by decide) (by decide)).1 _ _) (fun q => by cases q) (by rw [arrV_size]; exact hin) rfl rfl hd fun H' e1 e2 e3 => ?_
  have hbase : f.2.1.2.2.1 ≤ kx_ad f.2.1 a := by unfold kx_ad; rw [if_pos ha]; omega
  refine k p e s m args below meth c C H' _ ls (hR.put (k := 50) (v := .int (x)) hk (by decide) ha rfl (fun _ _ _ hb => kx_mv_setI hb) (fun j => ?_) e1 e2 e3) (fun q hq => ?_) hl
  · by_cases hj : j = i.toNatClampNeg
    · subst hj
      simp [kx_mv, kx_ak, kx_setI, kx_up_at, vp_nar, narrow]
    · simp [kx_mv, kx_ak, kx_setI, kx_up_at, hj]
  · rcases List.mem_append.mp hq with hq | hq
    · exact hL q hq
    · rw [List.mem_singleton.mp hq]; exact hbase
theorem kt_last {a : Nat} {i : Int32} {x : Int64} (hk : (h.2.2.2.1 a).1 = 51) (ha : a < 1000000) (hin : vp_in i (h.2.2.2.1 a).2) (hd : decode f.2.2.1.2.1 pc = .ok (.lastore, 1)) (k : kt_X f cells slots (pc + 1) lv st (kx_setL h a i.toNatClampNeg (x))) : kt_X f cells slots pc lv (.long x :: .int i :: .ref a :: st) h := by
  intro p e s m args below meth c C H locs ls hR hL hl
  refine W.last C.1.1 C.1.2.1 (kx_at.arr hR hk (by decide)) ((C.1.2.2.2.2.2.2.2.2.2.1 51 (by decide) (by decide)).1 _ _) (fun q => by cases q) (by rw [arrV_size]; exact hin) rfl rfl hd fun H' e1 e2 e3 => ?_
  have hbase : f.2.1.2.2.1 ≤ kx_ad f.2.1 a := by unfold kx_ad; rw [if_pos ha]; omega
  refine k p e s m args below meth c C H' _ ls (hR.put (k := 51) (v := .long (x)) hk (by decide) ha rfl (fun _ _ _ hb => kx_mv_setL hb) (fun j => ?_) e1 e2 e3) (fun q hq => ?_) hl
  · by_cases hj : j = i.toNatClampNeg
    · subst hj
      simp [kx_mv, kx_ak, kx_setL, kx_up_at, vp_nar, narrow]
    · simp [kx_mv, kx_ak, kx_setL, kx_up_at, hj]
  · rcases List.mem_append.mp hq with hq | hq
    · exact hL q hq
    · rw [List.mem_singleton.mp hq]; exact hbase
theorem kt_bast {a : Nat} {i : Int32} {x : Int32} (hk : (h.2.2.2.1 a).1 = 52) (ha : a < 1000000) (hin : vp_in i (h.2.2.2.1 a).2) (hd : decode f.2.2.1.2.1 pc = .ok (.bastore, 1)) (k : kt_X f cells slots (pc + 1) lv st (kx_setI h a i.toNatClampNeg (vp_nar .byte x))) : kt_X f cells slots pc lv (.int x :: .int i :: .ref a :: st) h := by
  intro p e s m args below meth c C H locs ls hR hL hl
  refine W.bast C.1.1 C.1.2.1 (kx_at.arr hR hk (by decide)) ((C.1.2.2.2.2.2.2.2.2.2.1 52 (by decide) (by decide)).1 _ _) (fun q => by cases q) (by rw [arrV_size]; exact hin) rfl rfl hd fun H' e1 e2 e3 => ?_
  have hbase : f.2.1.2.2.1 ≤ kx_ad f.2.1 a := by unfold kx_ad; rw [if_pos ha]; omega
  refine k p e s m args below meth c C H' _ ls (hR.put (k := 52) (v := .int (vp_nar .byte x)) hk (by decide) ha rfl (fun _ _ _ hb => kx_mv_setI hb) (fun j => ?_) e1 e2 e3) (fun q hq => ?_) hl
  · by_cases hj : j = i.toNatClampNeg
    · subst hj
      simp [kx_mv, kx_ak, kx_setI, kx_up_at, vp_nar, narrow]
    · simp [kx_mv, kx_ak, kx_setI, kx_up_at, hj]
  · rcases List.mem_append.mp hq with hq | hq
    · exact hL q hq
    · rw [List.mem_singleton.mp hq]; exact hbase
theorem kt_zast {a : Nat} {i : Int32} {x : Int32} (hk : (h.2.2.2.1 a).1 = 53) (ha : a < 1000000) (hin : vp_in i (h.2.2.2.1 a).2) (hd : decode f.2.2.1.2.1 pc = .ok (.bastore, 1)) (k : kt_X f cells slots (pc + 1) lv st (kx_setI h a i.toNatClampNeg (vp_nar .boolean x))) : kt_X f cells slots pc lv (.int x :: .int i :: .ref a :: st) h := by
  intro p e s m args below meth c C H locs ls hR hL hl
  refine W.zast C.1.1 C.1.2.1 (kx_at.arr hR hk (by decide)) ((C.1.2.2.2.2.2.2.2.2.2.1 53 (by decide) (by decide)).1 _ _) (fun q => by cases q) (by rw [arrV_size]; exact hin) rfl rfl hd fun H' e1 e2 e3 => ?_
  have hbase : f.2.1.2.2.1 ≤ kx_ad f.2.1 a := by unfold kx_ad; rw [if_pos ha]; omega
  refine k p e s m args below meth c C H' _ ls (hR.put (k := 53) (v := .int (vp_nar .boolean x)) hk (by decide) ha rfl (fun _ _ _ hb => kx_mv_setI hb) (fun j => ?_) e1 e2 e3) (fun q hq => ?_) hl
  · by_cases hj : j = i.toNatClampNeg
    · subst hj
      simp [kx_mv, kx_ak, kx_setI, kx_up_at, vp_nar, narrow]
    · simp [kx_mv, kx_ak, kx_setI, kx_up_at, hj]
  · rcases List.mem_append.mp hq with hq | hq
    · exact hL q hq
    · rw [List.mem_singleton.mp hq]; exact hbase
theorem kt_alen {a : Nat} {v : Int32} (hk : 50 ≤ (h.2.2.2.1 a).1 ∧ (h.2.2.2.1 a).1 < 57) (hv : Int32.ofNat (h.2.2.2.1 a).2 = v) (hd : decode f.2.2.1.2.1 pc = .ok (.arraylength, 1)) (k : kt_X f cells slots (pc + 1) lv (.int v :: st) h) : kt_X f cells slots pc lv (.ref a :: st) h := by
  intro p e s m args below meth c C H locs ls hR hL hl
  exact W.alen (n := v) C.1.1 C.1.2.1 (kx_at.arr hR rfl hk.1) ((C.1.2.2.2.2.2.2.2.2.2.1 _ hk.1 hk.2).1 _ _) (by rw [arrV_size]; exact hv) rfl rfl hd (k p e s m args below meth c C H locs ls hR hL hl)
theorem kt_aast {a v ci k : Nat} {i : Int32} {r : vw_C} (hk : (h.2.2.2.1 a).1 = k) (ha : a < 1000000) (hkv : (h.2.2.2.1 v).1 = ci + 1) (hc : kx_cl[ci]? = some r) (hty : (k = 54 ∧ Cond.castable r.1 "java/lang/Object" ∈ kx_nw) ∨ (k = 55 ∧ r.1 = "TreatyClaims$Rules")) (hin : vp_in i (h.2.2.2.1 a).2) (hd : decode f.2.2.1.2.1 pc = .ok (.aastore, 1))
    (kk : kt_X f cells slots (pc + 1) lv st (kx_setR h a i.toNatClampNeg (some v))) : kt_X f cells slots pc lv (.ref v :: .int i :: .ref a :: st) h := by
  intro p e s m args below meth c C H locs ls hR hL hl
  have h50 : 50 ≤ k := by rcases hty with h | h <;> omega
  have h57 : k < 57 := by rcases hty with h | h <;> omega
  obtain ⟨hx, hb, -, -, hown, hts, -, hnm, hK⟩ := id C.1
  have hlt : i.toNatClampNeg < (h.2.2.2.1 a).2 := Nat.not_le.mp fun q => hin (Or.inr q)
  have h0 : ¬ i < 0 := fun q => hin (Or.inl q)
  obtain ⟨cellV, g1, g2, g3, -⟩ := (hR.2.2.2.2 v).1 ci r hkv hc
  have hcls := (hK.1.1 ci r hc).2
  obtain ⟨kC, hkC, -⟩ := hcls.2
  have hra := (hK.2.1 k h50 h57).2
  obtain ⟨C1, kA, comp, k1, k2, kcomp, k4, kas⟩ : ∃ (C1 : String) (kA : Class) (comp : ClassId), s.vm.classes[f.2.1.2.1 k]? = some kA ∧ kA.kind = .array comp (.object C1) ∧ ∃ kcomp, s.vm.classes[comp]? = some kcomp ∧ s.vm.assignable (f.2.1.1.1 ci) comp = true := by
    rcases hty with ⟨rfl, hw⟩ | ⟨rfl, hw⟩
    · obtain ⟨kA, comp, k1, k2, k3, -⟩ := hra
      obtain ⟨c0, t0, f1, f2, f3⟩ := Cond.castable_spec (va_Nw.use (A := args) rfl (hK.2.2.1 _ hw))
      cases hcls.1.symm.trans f1
      cases k3.symm.trans f2
      obtain ⟨kc, hkc⟩ := Vm.classAt_of_findClass k3
      exact ⟨_, kA, comp, k1, k2, kc, hkc, f3⟩
    · obtain ⟨kA, comp, k1, k2, k3, -⟩ := hra
      rw [← hw] at k3
      have hcomp : comp = f.2.1.1.1 ci := Option.some.inj (k3.symm.trans hcls.1)
      subst hcomp
      exact ⟨_, kA, _, k1, k2, kC, hkC, va_assign hcls⟩
  refine W.aast hx hb (kx_at.arr hR hk h50) (fun q h => by cases h) (fun h => by cases h) k1 k2 rfl k4 ⟨h0, by rw [arrV_size]; exact hlt⟩ g1 (fun q h => by rw [g3] at h; cases h) (by rw [g2]; exact hkC) (by rw [g2]; exact kas) rfl rfl hd fun H' e1 e2 e3 => ?_
  have hbase : f.2.1.2.2.1 ≤ kx_ad f.2.1 a := by unfold kx_ad; rw [if_pos ha]; omega
  refine kk p e s m args below meth c C H' _ ls (hR.put (k := k) (v := .ref v) hk h50 ha rfl (fun _ _ _ hb => kx_mv_setR hb) (fun j => ?_) e1 e2 e3) (fun q hq => ?_) hl
  · rcases hty with ⟨rfl, -⟩ | ⟨rfl, -⟩
    · by_cases hj : j = i.toNatClampNeg
      · subst hj
        simp [kx_mv, kx_ak, kx_setR, kx_up_at, kx_rf]
      · simp [kx_mv, kx_ak, kx_setR, kx_up_at, hj]
    · by_cases hj : j = i.toNatClampNeg
      · subst hj
        simp [kx_mv, kx_ak, kx_setR, kx_up_at, kx_rf]
      · simp [kx_mv, kx_ak, kx_setR, kx_up_at, hj]
  · rcases List.mem_append.mp hq with hq | hq
    · exact hL q hq
    · rw [List.mem_singleton.mp hq]; exact hbase
theorem kt_cast {a ci index : Nat} {r : vw_C} (hk : (h.2.2.2.1 a).1 = ci + 1) (hc : kx_cl[ci]? = some r) (hw : Cond.classLink f.2.2.1.1.cls index r.1 ∈ kx_good) (hd : decode f.2.2.1.2.1 pc = .ok (.checkcast index, 3)) (k : kt_X f cells slots (pc + 3) lv (.ref a :: st) h) : kt_X f cells slots pc lv (.ref a :: st) h := by
  intro p e s m args below meth c C H locs ls hR hL hl
  obtain ⟨hx, hb, -, -, hown, hts, -, hnm, hK⟩ := id C.1
  obtain ⟨cell, h1, h2, h3⟩ := kx_recv hK hR hk hc
  have hcls := (hK.1.1 ci r hc).2
  intro T hT X
  have e0 : cell.cls = f.2.1.1.1 ci := Option.some.inj (h3.symm.trans hcls.1)
  obtain ⟨vm', X', st'⟩ := X.checkcastYes hx hown (hts _ hw) (by rw [hT]; exact h1) h2 hcls.1 (by rw [e0]; exact va_assign hcls) (g := F0 m pc ls ((Value.ref a :: st).map (kx_cv f.2.1))) rfl rfl (by rw [hb]; exact hd)
  obtain ⟨t, a1, b1⟩ := k p e s m args below meth c C H locs ls hR hL hl (T.setVm vm') hT X'
  exact ⟨t, st' t a1, b1⟩
theorem kt_castN {index : Nat} (hd : decode f.2.2.1.2.1 pc = .ok (.checkcast index, 3)) (k : kt_X f cells slots (pc + 3) lv (.null :: st) h) : kt_X f cells slots pc lv (.null :: st) h := by
  intro p e s m args below meth c C H locs ls hR hL hl
  exact lv_castN C.1.1 C.1.2.1 hd (k p e s m args below meth c C H locs ls hR hL hl)
end KTA
section KTN
variable {f : kt_F} {cells slots pc : Nat} {lv : List (Option Value)} {st : List Value} {h : kx_Mem}
theorem kt_newO {ci index : Nat} {r : vw_C} (hc : kx_cl[ci]? = some r) (hw : Cond.classLink f.2.2.1.1.cls index r.1 ∈ kx_good) (hw2 : Cond.instantiable r.1 r.2.2 ∈ kx_good) (hw3 : Cond.initialized r.1 ∈ kx_good) (hN : h.2.2.2.2 < 1000000) (hcells : cells + 1 ≤ f.2.2.2.2.1) (hslots : slots + r.2.2 ≤ f.2.2.2.2.2.1) (hd : decode f.2.2.1.2.1 pc = .ok (.new index, 3))
    (k : kt_X f (cells + 1) (slots + r.2.2) (pc + 3) lv (.ref h.2.2.2.2 :: st) (kx_new h (ci + 1) 0)) : kt_X f cells slots pc lv st h := by
  intro p e s m args below meth c C H locs ls hR hL hl
  obtain ⟨hx, hb, -, -, hown, hts, -, hnm, hK⟩ := id C.1
  have hKn := hK.1.1 ci _ hc
  refine W.newcK hx hb hown (hts _ hw) (hts _ hw2) (hts _ hw3) rfl hd hcells hslots hKn.2.1 rfl fun H1 kC hkC e1 z1 o1 => ?_
  have had : kx_ad f.2.1 h.2.2.2.2 = H.size := by unfold kx_ad; rw [if_pos hN, hR.1]
  have hrel : kx_Rel f.2.1 (kx_new h (ci + 1) 0) H1 := by
    refine hR.new hN z1 o1 ⟨fun ci' r' hk' hc' => ?_, fun hk' => ?_⟩
    · have hk2 : ((if h.2.2.2.2 = h.2.2.2.2 then (ci + 1, 0) else h.2.2.2.1 h.2.2.2.2) : Nat × Nat).1 = ci' + 1 := hk'
      rw [if_pos rfl] at hk2
      have hci : ci' = ci := by simp at hk2; omega
      subst hci
      cases hc.symm.trans hc'
      rw [had]
      exact (u_born (kx_ty ci') hts (kx_cw ci' r hc).1 hKn hkC e1 (kx_cw ci' r hc).2.1).to (fun j hj => (kx_mv_new0 f.2.1 (kx_ty_nf ci' r hc j hj)).symm)
    · have hk2 : 50 ≤ ((if h.2.2.2.2 = h.2.2.2.2 then (ci + 1, 0) else h.2.2.2.1 h.2.2.2.2) : Nat × Nat).1 := hk'
      rw [if_pos rfl] at hk2
      have : ci < kx_cl.length := (List.getElem?_eq_some_iff.mp hc).1
      have h15 : kx_cl.length = 15 := rfl
      simp at hk2
      omega
  have := k p e s m args below meth c C H1 locs ls hrel hL hl
  simp only [List.map_cons, kx_cv, had] at this
  exact this
theorem kt_newa {atype : ArrayType} {n : Int32} {kd N' : Nat} (hkd : 50 ≤ kd ∧ kd < 54) (hty : newarray.typeOf atype = kx_ak kd) (hw : Cond.arrayClass (kx_ak kd) ∈ kx_good) (hn : ¬ n < 0) (hN' : n.toNatClampNeg = N') (hbytes : N' * componentBytes (kx_ak kd) ≤ 536870912) (hN : h.2.2.2.2 < 1000000) (hcells : cells + 1 ≤ f.2.2.2.2.1) (hslots : slots + N' ≤ f.2.2.2.2.2.1) (hd : decode f.2.2.1.2.1 pc = .ok (.newarray atype, 2))
    (k : kt_X f (cells + 1) (slots + N') (pc + 2) lv (.ref h.2.2.2.2 :: st) (kx_new h kd N')) : kt_X f cells slots pc lv (.int n :: st) h := by
  intro p e s m args below meth c C H locs ls hR hL hl
  obtain ⟨hx, hb, -, -, hown, hts, -, hnm, hK⟩ := id C.1
  refine va_newaK hx hb (by rw [hty]; exact hts _ hw) rfl hd rfl hn hN' (by rw [hty]; exact hbytes) hcells hslots rfl fun H1 cA e1 z1 o1 hAr hNm => ?_
  have had : kx_ad f.2.1 h.2.2.2.2 = H.size := by unfold kx_ad; rw [if_pos hN, hR.1]
  have hra := (hK.2.1 kd hkd.1 (by omega)).2
  have hnf : kx_ak kd ≠ .float ∧ kx_ak kd ≠ .double := by
    have : ∀ q, q < 54 → kx_ak q ≠ .float ∧ kx_ak q ≠ .double := by decide +kernel
    exact this kd hkd.2
  have hcA : cA = f.2.1.2.1 kd := by
    rw [hty] at hNm
    have h4 : kd = 50 ∨ kd = 51 ∨ kd = 52 ∨ kd = 53 := by omega
    rcases h4 with rfl | rfl | rfl | rfl <;> exact Option.some.inj (hNm.symm.trans hra)
  subst hcA
  have hrel : kx_Rel f.2.1 (kx_new h kd N') H1 := by
    refine hR.new hN z1 o1 ⟨fun ci' r' hk' hc' => ?_, fun hk' => ?_⟩
    · have hk2 : ((if h.2.2.2.2 = h.2.2.2.2 then (kd, N') else h.2.2.2.1 h.2.2.2.2) : Nat × Nat).1 = ci' + 1 := hk'
      rw [if_pos rfl] at hk2
      have : ci' < kx_cl.length := (List.getElem?_eq_some_iff.mp hc').1
      have h15 : kx_cl.length = 15 := rfl
      simp at hk2
      omega
    · have ht : (kx_new h kd N').2.2.2.1 h.2.2.2.2 = (kd, N') := by show (if h.2.2.2.2 = h.2.2.2.2 then (kd, N') else _) = _; rw [if_pos rfl]
      rw [ht, had, e1, hty]
      congr 2
      funext j
      exact (kx_mv_new0 f.2.1 hnf).symm
  have := k p e s m args below meth c C H1 locs ls hrel hL hl
  simp only [List.map_cons, kx_cv, had] at this
  exact this
end KTN
section KTT
variable {f : kt_F} {cells slots pc : Nat} {lv : List (Option Value)} {st : List Value} {h : kx_Mem}
theorem kt_getI {a idx ci j : Nat} (hf : kx_FL f.2.2.1.1.cls idx ci j) (hk : (h.2.2.2.1 a).1 = ci + 1) (hty : kx_ty ci j = .int) (hd : decode f.2.2.1.2.1 pc = .ok (.getfield idx, 3)) (k : kt_X f cells slots (pc + 3) lv (.int (h.1 a j) :: st) h) : kt_X f cells slots pc lv (.ref a :: st) h :=
  kt_getf hf hk hd (by rw [hty]; exact k)
theorem kt_getL {a idx ci j : Nat} (hf : kx_FL f.2.2.1.1.cls idx ci j) (hk : (h.2.2.2.1 a).1 = ci + 1) (hty : kx_ty ci j = .long) (hd : decode f.2.2.1.2.1 pc = .ok (.getfield idx, 3)) (k : kt_X f cells slots (pc + 3) lv (.long (h.2.1 a j) :: st) h) : kt_X f cells slots pc lv (.ref a :: st) h :=
  kt_getf hf hk hd (by rw [hty]; exact k)
theorem kt_getQ {a idx ci j : Nat} (hf : kx_FL f.2.2.1.1.cls idx ci j) (hk : (h.2.2.2.1 a).1 = ci + 1) (hty : (kx_ty ci j).isReference = true) (hd : decode f.2.2.1.2.1 pc = .ok (.getfield idx, 3)) (k : kt_X f cells slots (pc + 3) lv (kx_rf (h.2.2.1 a j) :: st) h) : kt_X f cells slots pc lv (.ref a :: st) h := by
  refine kt_getf hf hk hd ?_
  revert hty
  cases kx_ty ci j <;> simp [FieldType.isReference, kx_mv] <;> intros <;> exact k
theorem kt_getR {a b idx ci j : Nat} (hf : kx_FL f.2.2.1.1.cls idx ci j) (hk : (h.2.2.2.1 a).1 = ci + 1) (hty : (kx_ty ci j).isReference = true) (hv : h.2.2.1 a j = some b) (hd : decode f.2.2.1.2.1 pc = .ok (.getfield idx, 3)) (k : kt_X f cells slots (pc + 3) lv (.ref b :: st) h) : kt_X f cells slots pc lv (.ref a :: st) h := by
  refine kt_getQ hf hk hty hd ?_
  rw [hv]
  exact k
theorem kt_aldR {a b k0 : Nat} {i : Int32} (hk : (h.2.2.2.1 a).1 = k0) (hk0 : k0 = 54 ∨ k0 = 55 ∨ k0 = 56) (hin : vp_in i (h.2.2.2.1 a).2) (hv : h.2.2.1 a i.toNatClampNeg = some b) (hd : decode f.2.2.1.2.1 pc = .ok (.aaload, 1)) (k : kt_X f cells slots (pc + 1) lv (.ref b :: st) h) : kt_X f cells slots pc lv (.int i :: .ref a :: st) h := by
  rcases hk0 with rfl | rfl | rfl
  · exact kt_ald54 hk hin hd (by rw [hv]; exact k)
  · exact kt_ald55 hk hin hd (by rw [hv]; exact k)
  · exact kt_ald56 hk hin hd (by rw [hv]; exact k)
theorem kt_mmax {index : Nat} {x y : Int32} (hw : Cond.methodLink f.2.2.1.1.cls index Lib.Math.max.name ∈ kx_good) (hd : decode f.2.2.1.2.1 pc = .ok (.invokestatic index, 3)) (hdd : 1 ≤ f.2.2.2.1) (hcat : (st.map fun v => v.category).sum ≤ 8) (hc : cells ≤ f.2.2.2.2.1) (hs : slots ≤ f.2.2.2.2.2.1) (k : kt_X f cells slots (pc + 3) lv (.int (if x < y then y else x) :: st) h) : kt_X f cells slots pc lv (.int y :: .int x :: st) h := by
  intro p e s m args below meth c C H locs ls hR hL hl
  obtain ⟨hx, hb, -, hml, hown, hts, -, hnm, hK⟩ := id C.1
  have hcat' : ((st.map (kx_cv f.2.1)).map fun v => v.category).sum ≤ 8 := by rw [List.map_map]; simpa [Function.comp_def, kx_cv_cat] using hcat
  exact va_mmax hx hb (hml.trans hl.1.symm) hown (hts _ hw) (hts _ kx_wmmax.1) (hts _ kx_wmmax.2.1) (hts _ kx_wmmax.2.2) hdd (by show _ ≤ 32 * f.2.2.2.1; omega) hc hs hd (k p e s m args below meth c C H locs ls hR hL hl)
theorem kt_mmin {index : Nat} {x y : Int32} (hw : Cond.methodLink f.2.2.1.1.cls index Lib.Math.min.name ∈ kx_good) (hd : decode f.2.2.1.2.1 pc = .ok (.invokestatic index, 3)) (hdd : 1 ≤ f.2.2.2.1) (hcat : (st.map fun v => v.category).sum ≤ 8) (hc : cells ≤ f.2.2.2.2.1) (hs : slots ≤ f.2.2.2.2.2.1) (k : kt_X f cells slots (pc + 3) lv (.int (if y < x then y else x) :: st) h) : kt_X f cells slots pc lv (.int y :: .int x :: st) h := by
  intro p e s m args below meth c C H locs ls hR hL hl
  obtain ⟨hx, hb, -, hml, hown, hts, -, hnm, hK⟩ := id C.1
  have hcat' : ((st.map (kx_cv f.2.1)).map fun v => v.category).sum ≤ 8 := by rw [List.map_map]; simpa [Function.comp_def, kx_cv_cat] using hcat
  exact va_mmin hx hb (hml.trans hl.1.symm) hown (hts _ hw) (hts _ kx_wmmin.1) (hts _ kx_wmmin.2.1) (hts _ kx_wmmin.2.2) hdd (by show _ ≤ 32 * f.2.2.2.1; omega) hc hs hd (k p e s m args below meth c C H locs ls hR hL hl)
theorem kt_mmaxL {index : Nat} {x y : Int64} (hw : Cond.methodLink f.2.2.1.1.cls index Lib.MathLoose.max_long.x ∈ kx_good) (hd : decode f.2.2.1.2.1 pc = .ok (.invokestatic index, 3)) (hdd : 1 ≤ f.2.2.2.1) (hcat : (st.map fun v => v.category).sum ≤ 8) (hc : cells ≤ f.2.2.2.2.1) (hs : slots ≤ f.2.2.2.2.2.1) (k : kt_X f cells slots (pc + 3) lv (.long (if y < x then x else y) :: st) h) : kt_X f cells slots pc lv (.long y :: .long x :: st) h := by
  intro p e s m args below meth c C H locs ls hR hL hl
  obtain ⟨hx, hb, -, hml, hown, hts, -, hnm, hK⟩ := id C.1
  have hcat' : ((st.map (kx_cv f.2.1)).map fun v => v.category).sum ≤ 8 := by rw [List.map_map]; simpa [Function.comp_def, kx_cv_cat] using hcat
  exact va_mmax_long hx hb (hml.trans hl.1.symm) hown (hts _ hw) (hts _ kx_wmmaxL.1) (hts _ kx_wmmaxL.2.1) (hts _ kx_wmmaxL.2.2) hdd (by show _ ≤ 32 * f.2.2.2.1; omega) hc hs hd (k p e s m args below meth c C H locs ls hR hL hl)
theorem kt_mminL {index : Nat} {x y : Int64} (hw : Cond.methodLink f.2.2.1.1.cls index Lib.MathLoose.min_long.x ∈ kx_good) (hd : decode f.2.2.1.2.1 pc = .ok (.invokestatic index, 3)) (hdd : 1 ≤ f.2.2.2.1) (hcat : (st.map fun v => v.category).sum ≤ 8) (hc : cells ≤ f.2.2.2.2.1) (hs : slots ≤ f.2.2.2.2.2.1) (k : kt_X f cells slots (pc + 3) lv (.long (if y < x then y else x) :: st) h) : kt_X f cells slots pc lv (.long y :: .long x :: st) h := by
  intro p e s m args below meth c C H locs ls hR hL hl
  obtain ⟨hx, hb, -, hml, hown, hts, -, hnm, hK⟩ := id C.1
  have hcat' : ((st.map (kx_cv f.2.1)).map fun v => v.category).sum ≤ 8 := by rw [List.map_map]; simpa [Function.comp_def, kx_cv_cat] using hcat
  exact va_mmin_long hx hb (hml.trans hl.1.symm) hown (hts _ hw) (hts _ kx_wmminL.1) (hts _ kx_wmminL.2.1) (hts _ kx_wmminL.2.2) hdd (by show _ ≤ 32 * f.2.2.2.1; omega) hc hs hd (k p e s m args below meth c C H locs ls hR hL hl)
end KTT
section KTW
variable {f : kt_F} {cells slots pc : Nat} {lv : List (Option Value)} {st : List Value} {h : kx_Mem}
theorem kt_ialdt {a n : Nat} {i : Int32} (hk : h.2.2.2.1 a = (50, n)) (hin : vp_in i n) (hd : decode f.2.2.1.2.1 pc = .ok (.iaload, 1)) (k : kt_X f cells slots (pc + 1) lv (.int (h.1 a i.toNatClampNeg) :: st) h) : kt_X f cells slots pc lv (.int i :: .ref a :: st) h := kt_iald (by rw [hk]) (by rw [hk]; exact hin) hd k
theorem kt_ialdn {a n : Nat} {i : Int32} (q : Nat) (hk : h.2.2.2.1 a = (50, n)) (hq : i = nI q) (hqn : q < n) (hn : n < 2 ^ 31) (hd : decode f.2.2.1.2.1 pc = .ok (.iaload, 1)) (k : kt_X f cells slots (pc + 1) lv (.int (h.1 a q) :: st) h) : kt_X f cells slots pc lv (.int i :: .ref a :: st) h := by
  subst hq
  refine kt_ialdt hk (vp_in_nI hqn hn) hd ?_
  rw [nI_clamp (by omega)]
  exact k
theorem kt_laldt {a n : Nat} {i : Int32} (hk : h.2.2.2.1 a = (51, n)) (hin : vp_in i n) (hd : decode f.2.2.1.2.1 pc = .ok (.laload, 1)) (k : kt_X f cells slots (pc + 1) lv (.long (h.2.1 a i.toNatClampNeg) :: st) h) : kt_X f cells slots pc lv (.int i :: .ref a :: st) h := kt_lald (by rw [hk]) (by rw [hk]; exact hin) hd k
theorem kt_laldn {a n : Nat} {i : Int32} (q : Nat) (hk : h.2.2.2.1 a = (51, n)) (hq : i = nI q) (hqn : q < n) (hn : n < 2 ^ 31) (hd : decode f.2.2.1.2.1 pc = .ok (.laload, 1)) (k : kt_X f cells slots (pc + 1) lv (.long (h.2.1 a q) :: st) h) : kt_X f cells slots pc lv (.int i :: .ref a :: st) h := by
  subst hq
  refine kt_laldt hk (vp_in_nI hqn hn) hd ?_
  rw [nI_clamp (by omega)]
  exact k
theorem kt_baldt {a n : Nat} {i : Int32} (hk : h.2.2.2.1 a = (52, n)) (hin : vp_in i n) (hd : decode f.2.2.1.2.1 pc = .ok (.baload, 1)) (k : kt_X f cells slots (pc + 1) lv (.int (h.1 a i.toNatClampNeg) :: st) h) : kt_X f cells slots pc lv (.int i :: .ref a :: st) h := kt_bald (by rw [hk]) (by rw [hk]; exact hin) hd k
theorem kt_baldn {a n : Nat} {i : Int32} (q : Nat) (hk : h.2.2.2.1 a = (52, n)) (hq : i = nI q) (hqn : q < n) (hn : n < 2 ^ 31) (hd : decode f.2.2.1.2.1 pc = .ok (.baload, 1)) (k : kt_X f cells slots (pc + 1) lv (.int (h.1 a q) :: st) h) : kt_X f cells slots pc lv (.int i :: .ref a :: st) h := by
  subst hq
  refine kt_baldt hk (vp_in_nI hqn hn) hd ?_
  rw [nI_clamp (by omega)]
  exact k
theorem kt_zaldt {a n : Nat} {i : Int32} (hk : h.2.2.2.1 a = (53, n)) (hin : vp_in i n) (hd : decode f.2.2.1.2.1 pc = .ok (.baload, 1)) (k : kt_X f cells slots (pc + 1) lv (.int (h.1 a i.toNatClampNeg) :: st) h) : kt_X f cells slots pc lv (.int i :: .ref a :: st) h := kt_zald (by rw [hk]) (by rw [hk]; exact hin) hd k
theorem kt_zaldn {a n : Nat} {i : Int32} (q : Nat) (hk : h.2.2.2.1 a = (53, n)) (hq : i = nI q) (hqn : q < n) (hn : n < 2 ^ 31) (hd : decode f.2.2.1.2.1 pc = .ok (.baload, 1)) (k : kt_X f cells slots (pc + 1) lv (.int (h.1 a q) :: st) h) : kt_X f cells slots pc lv (.int i :: .ref a :: st) h := by
  subst hq
  refine kt_zaldt hk (vp_in_nI hqn hn) hd ?_
  rw [nI_clamp (by omega)]
  exact k
theorem kt_iastt {a n : Nat} {i : Int32} {x : Int32} (hk : h.2.2.2.1 a = (50, n)) (ha : a < 1000000) (hin : vp_in i n) (hd : decode f.2.2.1.2.1 pc = .ok (.iastore, 1)) (k : kt_X f cells slots (pc + 1) lv st (kx_setI h a i.toNatClampNeg (x))) : kt_X f cells slots pc lv (.int x :: .int i :: .ref a :: st) h := kt_iast (by rw [hk]) ha (by rw [hk]; exact hin) hd k
theorem kt_iastn {a n : Nat} {i : Int32} {x : Int32} (q : Nat) (hk : h.2.2.2.1 a = (50, n)) (ha : a < 1000000) (hq : i = nI q) (hqn : q < n) (hn : n < 2 ^ 31) (hd : decode f.2.2.1.2.1 pc = .ok (.iastore, 1)) (k : kt_X f cells slots (pc + 1) lv st (kx_setI h a q (x))) : kt_X f cells slots pc lv (.int x :: .int i :: .ref a :: st) h := by
  subst hq
  refine kt_iastt hk ha (vp_in_nI hqn hn) hd ?_
  rw [nI_clamp (by omega)]
  exact k
theorem kt_lastt {a n : Nat} {i : Int32} {x : Int64} (hk : h.2.2.2.1 a = (51, n)) (ha : a < 1000000) (hin : vp_in i n) (hd : decode f.2.2.1.2.1 pc = .ok (.lastore, 1)) (k : kt_X f cells slots (pc + 1) lv st (kx_setL h a i.toNatClampNeg (x))) : kt_X f cells slots pc lv (.long x :: .int i :: .ref a :: st) h := kt_last (by rw [hk]) ha (by rw [hk]; exact hin) hd k
theorem kt_lastn {a n : Nat} {i : Int32} {x : Int64} (q : Nat) (hk : h.2.2.2.1 a = (51, n)) (ha : a < 1000000) (hq : i = nI q) (hqn : q < n) (hn : n < 2 ^ 31) (hd : decode f.2.2.1.2.1 pc = .ok (.lastore, 1)) (k : kt_X f cells slots (pc + 1) lv st (kx_setL h a q (x))) : kt_X f cells slots pc lv (.long x :: .int i :: .ref a :: st) h := by
  subst hq
  refine kt_lastt hk ha (vp_in_nI hqn hn) hd ?_
  rw [nI_clamp (by omega)]
  exact k
theorem kt_bastt {a n : Nat} {i : Int32} {x : Int32} (hk : h.2.2.2.1 a = (52, n)) (ha : a < 1000000) (hin : vp_in i n) (hd : decode f.2.2.1.2.1 pc = .ok (.bastore, 1)) (k : kt_X f cells slots (pc + 1) lv st (kx_setI h a i.toNatClampNeg (vp_nar .byte x))) : kt_X f cells slots pc lv (.int x :: .int i :: .ref a :: st) h := kt_bast (by rw [hk]) ha (by rw [hk]; exact hin) hd k
theorem kt_bastn {a n : Nat} {i : Int32} {x : Int32} (q : Nat) (hk : h.2.2.2.1 a = (52, n)) (ha : a < 1000000) (hq : i = nI q) (hqn : q < n) (hn : n < 2 ^ 31) (hd : decode f.2.2.1.2.1 pc = .ok (.bastore, 1)) (k : kt_X f cells slots (pc + 1) lv st (kx_setI h a q (vp_nar .byte x))) : kt_X f cells slots pc lv (.int x :: .int i :: .ref a :: st) h := by
  subst hq
  refine kt_bastt hk ha (vp_in_nI hqn hn) hd ?_
  rw [nI_clamp (by omega)]
  exact k
theorem kt_zastt {a n : Nat} {i : Int32} {x : Int32} (hk : h.2.2.2.1 a = (53, n)) (ha : a < 1000000) (hin : vp_in i n) (hd : decode f.2.2.1.2.1 pc = .ok (.bastore, 1)) (k : kt_X f cells slots (pc + 1) lv st (kx_setI h a i.toNatClampNeg (vp_nar .boolean x))) : kt_X f cells slots pc lv (.int x :: .int i :: .ref a :: st) h := kt_zast (by rw [hk]) ha (by rw [hk]; exact hin) hd k
theorem kt_zastn {a n : Nat} {i : Int32} {x : Int32} (q : Nat) (hk : h.2.2.2.1 a = (53, n)) (ha : a < 1000000) (hq : i = nI q) (hqn : q < n) (hn : n < 2 ^ 31) (hd : decode f.2.2.1.2.1 pc = .ok (.bastore, 1)) (k : kt_X f cells slots (pc + 1) lv st (kx_setI h a q (vp_nar .boolean x))) : kt_X f cells slots pc lv (.int x :: .int i :: .ref a :: st) h := by
  subst hq
  refine kt_zastt hk ha (vp_in_nI hqn hn) hd ?_
  rw [nI_clamp (by omega)]
  exact k
theorem kt_aldn {a b k0 n : Nat} {i : Int32} (q : Nat) (hk : h.2.2.2.1 a = (k0, n)) (hk0 : k0 = 54 ∨ k0 = 55 ∨ k0 = 56) (hq : i = nI q) (hqn : q < n) (hn : n < 2 ^ 31) (hv : h.2.2.1 a q = some b) (hd : decode f.2.2.1.2.1 pc = .ok (.aaload, 1)) (k : kt_X f cells slots (pc + 1) lv (.ref b :: st) h) : kt_X f cells slots pc lv (.int i :: .ref a :: st) h := by
  subst hq
  exact kt_aldR (by rw [hk]) hk0 (by rw [hk]; exact vp_in_nI hqn hn) (by rw [nI_clamp (by omega)]; exact hv) hd k
end KTW
section KTV
variable {f : kt_F} {cells slots pc : Nat} {lv lv' : List (Option Value)} {st : List Value} {h : kx_Mem}
theorem kt_istore_ne {kn : Fin 4} {i : Nat} {x : Int32} (hd : decode f.2.2.1.2.1 pc = .ok (.istore_n kn, 1)) (hi : (kn : Nat) = i) (hn : i < f.2.2.1.2.2.1) (hlv : kx_s1 lv i (.int x) = lv') (k : kt_X f cells slots (pc + 1) lv' st h) : kt_X f cells slots pc lv (.int x :: st) h := kt_istore_n hd hi hn (by rw [hlv]; exact k)
theorem kt_istore_e {i : Nat} {x : Int32} (hd : decode f.2.2.1.2.1 pc = .ok (.istore i, 2)) (hn : i < f.2.2.1.2.2.1) (hlv : kx_s1 lv i (.int x) = lv') (k : kt_X f cells slots (pc + 2) lv' st h) : kt_X f cells slots pc lv (.int x :: st) h := kt_istore hd hn (by rw [hlv]; exact k)
theorem kt_lstore_ne {kn : Fin 4} {i : Nat} {x : Int64} (hd : decode f.2.2.1.2.1 pc = .ok (.lstore_n kn, 1)) (hi : (kn : Nat) = i) (hn : i + 1 < f.2.2.1.2.2.1) (hlv : kx_s2 lv i (.long x) = lv') (k : kt_X f cells slots (pc + 1) lv' st h) : kt_X f cells slots pc lv (.long x :: st) h := kt_lstore_n hd hi hn (by rw [hlv]; exact k)
theorem kt_lstore_e {i : Nat} {x : Int64} (hd : decode f.2.2.1.2.1 pc = .ok (.lstore i, 2)) (hn : i + 1 < f.2.2.1.2.2.1) (hlv : kx_s2 lv i (.long x) = lv') (k : kt_X f cells slots (pc + 2) lv' st h) : kt_X f cells slots pc lv (.long x :: st) h := kt_lstore hd hn (by rw [hlv]; exact k)
theorem kt_astore_ne {kn : Fin 4} {i : Nat} {x : Nat} (hd : decode f.2.2.1.2.1 pc = .ok (.astore_n kn, 1)) (hi : (kn : Nat) = i) (hn : i < f.2.2.1.2.2.1) (hlv : kx_s1 lv i (.ref x) = lv') (k : kt_X f cells slots (pc + 1) lv' st h) : kt_X f cells slots pc lv (.ref x :: st) h := kt_astore_n hd hi hn (by rw [hlv]; exact k)
theorem kt_astore_e {i : Nat} {x : Nat} (hd : decode f.2.2.1.2.1 pc = .ok (.astore i, 2)) (hn : i < f.2.2.1.2.2.1) (hlv : kx_s1 lv i (.ref x) = lv') (k : kt_X f cells slots (pc + 2) lv' st h) : kt_X f cells slots pc lv (.ref x :: st) h := kt_astore hd hn (by rw [hlv]; exact k)
theorem kt_astore_neN {kn : Fin 4} {i : Nat} (hd : decode f.2.2.1.2.1 pc = .ok (.astore_n kn, 1)) (hi : (kn : Nat) = i) (hn : i < f.2.2.1.2.2.1) (hlv : kx_s1 lv i .null = lv') (k : kt_X f cells slots (pc + 1) lv' st h) : kt_X f cells slots pc lv (.null :: st) h := kt_astore_nN hd hi hn (by rw [hlv]; exact k)
theorem kt_astore_eN {i : Nat} (hd : decode f.2.2.1.2.1 pc = .ok (.astore i, 2)) (hn : i < f.2.2.1.2.2.1) (hlv : kx_s1 lv i .null = lv') (k : kt_X f cells slots (pc + 2) lv' st h) : kt_X f cells slots pc lv (.null :: st) h := kt_astoreN hd hn (by rw [hlv]; exact k)
theorem kt_iinc_e {i : Nat} {n : Int} {x v : Int32} (hd : decode f.2.2.1.2.1 pc = .ok (.iinc i n, 3)) (hx : lv[i]? = some (some (.int x))) (hn : i < f.2.2.1.2.2.1) (hv : x + Int32.ofInt n = v) (hlv : kx_s1 lv i (.int v) = lv') (k : kt_X f cells slots (pc + 3) lv' st h) : kt_X f cells slots pc lv st h := kt_iinc hd hx hn hv (by rw [hlv]; exact k)
end KTV
