/-! the judgement and its rows -/
abbrev kx_ws (μ : kx_M) : List Cond := .code μ.1 μ.2.1 μ.2.2.1 μ.2.2.2 :: kx_good
def kx_Cx (g : kx_G) (μ : kx_M) (p : Program) (s : State) (m : MethodId) (args : Array Value) (meth : Method) (c : Code) : Prop :=
  p.tables.exec = Jvm.exec ∧ c.code = μ.2.1 ∧ meth.sig.returnType = μ.2.2.2 ∧ c.maxLocals = μ.2.2.1 ∧ s.vm.findClass μ.1.cls = some m.cls ∧ (∀ w ∈ kx_good, w.before args s = true) ∧ meth.locks = false ∧ meth.name = μ.1.name ∧ kx_K g s
abbrev kx_room (d mc ms : Nat) : Room := { frames := d, cells := mc, slots := ms, locals := 32 * d }
def kx_Qc (g : kx_G) (Q : Option Value → kx_Mem → Prop) : Array Value → State → Outcome → State → Prop := fun _ _ o t => ∃ (v : Option Value) (h : kx_Mem), o = .returned (v.map (kx_cv g)) ∧ kx_Rel g h t.heap ∧ Q v h
def kx_Pc (g : kx_G) (as : List Value) (h : kx_Mem) : Array Value → State → Prop := fun v U => v = (as.map (kx_cv g)).toArray ∧ kx_Rel g h U.heap ∧ kx_K g U
/-- launch, world, method, frames, cells, slots that it may use, what it promises -/
abbrev kx_F : Type := Launch × kx_G × kx_M × Nat × Nat × Nat × (Option Value → kx_Mem → Prop)
def kx_X (f : kx_F) (cells slots pc : Nat) (lv : List (Option Value)) (st : List Value) (h : kx_Mem) : Prop :=
  ∀ (p : Program) (e : Env) (s : State) (m : MethodId) (args : Array Value) (below : List Frame) (meth : Method) (c : Code), kx_Cx f.2.1 f.2.2.1 p s m args meth c →
  ∀ (H : Heap) (locs : List Loc) (ls : Array Slot), kx_Rel f.2.1 h H → (∀ q ∈ locs, f.2.1.2.2.1 ≤ q.base) → kx_has f.2.1 ls f.2.2.1.2.2.1 lv →
  W p f.1 e (kx_room f.2.2.2.1 f.2.2.2.2.1 f.2.2.2.2.2.1) s m args below meth c H locs cells slots (MQ below (kx_Qc f.2.1 f.2.2.2.2.2.2) args s f.2.2.2.2.1 f.2.2.2.2.2.1 (fun q => f.2.1.2.2.1 ≤ q)) (F0 m pc ls (st.map (kx_cv f.2.1)))
/-- a method's contract at some arguments and some memory -/
def kx_Sp (l : Launch) (g : kx_G) (μ : kx_M) (as : List Value) (h : kx_Mem) (d mc ms : Nat) (Q : Option Value → kx_Mem → Prop) : Prop :=
  Met l μ.1 (kx_ws μ) (kx_room d mc ms) (kx_Pc g as h) (kx_Qc g Q) mc ms (fun q => g.2.2.1 ≤ q)
theorem kx_enter {l : Launch} {g : kx_G} {μ : kx_M} {as : List Value} {h : kx_Mem} {d mc ms : Nat} {Q : Option Value → kx_Mem → Prop} (hy : plainName μ.1.cls = true) (hn : (kx_arg as).length ≤ μ.2.2.1)
    (hX : kx_X (l, g, μ, d, mc, ms, Q) 0 0 0 (kx_ent μ.2.2.1 as) [] h) : kx_Sp l g μ as h d mc ms Q := by
  refine Met.ofW (cc := μ.2.1) (maxL := μ.2.2.1) (ret := μ.2.2.2) hy rfl ?_
  intro p e s m args below meth c s₁ B hml hv
  obtain ⟨rfl, hR, hK⟩ := hv
  have hts := atoms_spec (ws := kx_ws μ) B.pre
  have hown : s.vm.findClass μ.1.cls = some m.cls := findClass_of_methodNamed B.named
  rw [lg_entry_eq]
  exact hX p e s m _ below meth c ⟨B.exec, B.bytes, B.returns, hml, hown, fun w hw => hts w (List.mem_cons_of_mem _ hw), B.notSynchronized, (name_of_methodNamed B.named B.method).1, hK⟩ s.heap [] _ hR (fun _ h => by cases h) (kx_entry g as hn)
theorem kx_blind (g : kx_G) (as : List Value) (h : kx_Mem) : FrameBlind (kx_Pc g as h) := fun a U gg mk q => ⟨q.1, q.2.1, ⟨va_K.moved (u := U) (U := U.calling gg mk a) (Vm.Alike.refl U.vm) q.2.2.1, fun k h1 h2 => ⟨arrOfT_moved (u := U) (E := U.calling gg mk a) (Vm.Alike.refl U.vm) (q.2.2.2.1 k h1 h2).1, (q.2.2.2.1 k h1 h2).2.moved (u := U) (U := U.calling gg mk a) (Vm.Alike.refl U.vm)⟩, fun w hw => by
    have h4 := q.2.2.2.2.1 w hw
    have ho : w.onTables = true := by rcases kx_nw_kind w hw with ⟨a, i, b, n, d, h, rfl⟩ | ⟨a, i, x, h, rfl⟩ | ⟨C, T, rfl⟩ <;> rfl
    exact va_Nw.same ho (u := U) (U := U.calling gg mk a) rfl h4, q.2.2.2.2.2⟩⟩
section KXR
variable {f : kx_F} {cells slots pc : Nat} {lv : List (Option Value)} {st : List Value} {h : kx_Mem}
theorem kx_iconst {n : Int} {v : Int32} (hd : decode f.2.2.1.2.1 pc = .ok (.iconst n, 1)) (hv : Int32.ofInt n = v) (k : kx_X f cells slots (pc + 1) lv (.int v :: st) h) : kx_X f cells slots pc lv (st) h := by
  intro p e s m args below meth c C H locs ls hR hL hl
  exact lv_iconst C.1 C.2.1 hd hv (k p e s m args below meth c C H locs ls hR hL hl)
theorem kx_bipush {n : Int} {v : Int32} (hd : decode f.2.2.1.2.1 pc = .ok (.bipush n, 2)) (hv : (Int8.ofInt n).toInt32 = v) (k : kx_X f cells slots (pc + 2) lv (.int v :: st) h) : kx_X f cells slots pc lv (st) h := by
  intro p e s m args below meth c C H locs ls hR hL hl
  exact lv_bipush C.1 C.2.1 hd hv (k p e s m args below meth c C H locs ls hR hL hl)
theorem kx_sipush {n : Int} {v : Int32} (hd : decode f.2.2.1.2.1 pc = .ok (.sipush n, 3)) (hv : (Int16.ofInt n).toInt32 = v) (k : kx_X f cells slots (pc + 3) lv (.int v :: st) h) : kx_X f cells slots pc lv (st) h := by
  intro p e s m args below meth c C H locs ls hR hL hl
  exact lv_sipush C.1 C.2.1 hd hv (k p e s m args below meth c C H locs ls hR hL hl)
theorem kx_lconst {n : Fin 2} {v : Int64} (hd : decode f.2.2.1.2.1 pc = .ok (.lconst n, 1)) (hv : Int64.ofNat (n : Nat) = v) (k : kx_X f cells slots (pc + 1) lv (.long v :: st) h) : kx_X f cells slots pc lv (st) h := by
  intro p e s m args below meth c C H locs ls hR hL hl
  exact lv_lconst C.1 C.2.1 hd hv (k p e s m args below meth c C H locs ls hR hL hl)
theorem kx_null  (hd : decode f.2.2.1.2.1 pc = .ok (.aconst_null, 1)) (k : kx_X f cells slots (pc + 1) lv (.null :: st) h) : kx_X f cells slots pc lv (st) h := by
  intro p e s m args below meth c C H locs ls hR hL hl
  exact lv_null C.1 C.2.1 hd (k p e s m args below meth c C H locs ls hR hL hl)
theorem kx_iload_n {kn : Fin 4} {i : Nat} (hd : decode f.2.2.1.2.1 pc = .ok (.iload_n kn, 1)) (hi : (kn : Nat) = i) {x : Int32} (hv : lv[i]? = some (some (.int x))) (k : kx_X f cells slots (pc + 1) lv (.int x :: st) h) : kx_X f cells slots pc lv st h := by
  intro p e s m args below meth c C H locs ls hR hL hl
  exact lv_iload_n C.1 C.2.1 hd hi (hl.at hv) (k p e s m args below meth c C H locs ls hR hL hl)
theorem kx_iload {i : Nat} (hd : decode f.2.2.1.2.1 pc = .ok (.iload i, 2)) {x : Int32} (hv : lv[i]? = some (some (.int x))) (k : kx_X f cells slots (pc + 2) lv (.int x :: st) h) : kx_X f cells slots pc lv st h := by
  intro p e s m args below meth c C H locs ls hR hL hl
  exact lv_iload C.1 C.2.1 hd (hl.at hv) (k p e s m args below meth c C H locs ls hR hL hl)
theorem kx_lload_n {kn : Fin 4} {i : Nat} (hd : decode f.2.2.1.2.1 pc = .ok (.lload_n kn, 1)) (hi : (kn : Nat) = i) {x : Int64} (hv : lv[i]? = some (some (.long x))) (k : kx_X f cells slots (pc + 1) lv (.long x :: st) h) : kx_X f cells slots pc lv st h := by
  intro p e s m args below meth c C H locs ls hR hL hl
  exact lv_lload_n C.1 C.2.1 hd hi (hl.at hv) (k p e s m args below meth c C H locs ls hR hL hl)
theorem kx_lload {i : Nat} (hd : decode f.2.2.1.2.1 pc = .ok (.lload i, 2)) {x : Int64} (hv : lv[i]? = some (some (.long x))) (k : kx_X f cells slots (pc + 2) lv (.long x :: st) h) : kx_X f cells slots pc lv st h := by
  intro p e s m args below meth c C H locs ls hR hL hl
  exact lv_lload C.1 C.2.1 hd (hl.at hv) (k p e s m args below meth c C H locs ls hR hL hl)
theorem kx_aload_n {kn : Fin 4} {i : Nat} (hd : decode f.2.2.1.2.1 pc = .ok (.aload_n kn, 1)) (hi : (kn : Nat) = i) {x : Nat} (hv : lv[i]? = some (some (.ref x))) (k : kx_X f cells slots (pc + 1) lv (.ref x :: st) h) : kx_X f cells slots pc lv st h := by
  intro p e s m args below meth c C H locs ls hR hL hl
  exact lv_aload_n C.1 C.2.1 hd hi (hl.at hv) (k p e s m args below meth c C H locs ls hR hL hl)
theorem kx_aload {i : Nat} (hd : decode f.2.2.1.2.1 pc = .ok (.aload i, 2)) {x : Nat} (hv : lv[i]? = some (some (.ref x))) (k : kx_X f cells slots (pc + 2) lv (.ref x :: st) h) : kx_X f cells slots pc lv st h := by
  intro p e s m args below meth c C H locs ls hR hL hl
  exact lv_aload C.1 C.2.1 hd (hl.at hv) (k p e s m args below meth c C H locs ls hR hL hl)
theorem kx_aload_nN {kn : Fin 4} {i : Nat} (hd : decode f.2.2.1.2.1 pc = .ok (.aload_n kn, 1)) (hi : (kn : Nat) = i) (hv : lv[i]? = some (some .null)) (k : kx_X f cells slots (pc + 1) lv (.null :: st) h) : kx_X f cells slots pc lv st h := by
  intro p e s m args below meth c C H locs ls hR hL hl
  exact lv_aload_nN C.1 C.2.1 hd hi (hl.at hv) (k p e s m args below meth c C H locs ls hR hL hl)
theorem kx_aloadN {i : Nat} (hd : decode f.2.2.1.2.1 pc = .ok (.aload i, 2)) (hv : lv[i]? = some (some .null)) (k : kx_X f cells slots (pc + 2) lv (.null :: st) h) : kx_X f cells slots pc lv st h := by
  intro p e s m args below meth c C H locs ls hR hL hl
  exact lv_aloadN C.1 C.2.1 hd (hl.at hv) (k p e s m args below meth c C H locs ls hR hL hl)
theorem kx_istore_n {kn : Fin 4} {i : Nat} (hd : decode f.2.2.1.2.1 pc = .ok (.istore_n kn, 1)) (hi : (kn : Nat) = i) {x : Int32} (hn : i < f.2.2.1.2.2.1) (k : kx_X f cells slots (pc + 1) (kx_s1 lv i (.int x)) st h) : kx_X f cells slots pc lv (.int x :: st) h := by
  intro p e s m args below meth c C H locs ls hR hL hl
  exact lv_istore_n C.1 C.2.1 hd hi hl hn rfl (fun ls' hl' => k p e s m args below meth c C H locs ls' hR hL (kx_has.st1 hl'))
theorem kx_istore {i : Nat} (hd : decode f.2.2.1.2.1 pc = .ok (.istore i, 2)) {x : Int32} (hn : i < f.2.2.1.2.2.1) (k : kx_X f cells slots (pc + 2) (kx_s1 lv i (.int x)) st h) : kx_X f cells slots pc lv (.int x :: st) h := by
  intro p e s m args below meth c C H locs ls hR hL hl
  exact lv_istore C.1 C.2.1 hd hl hn rfl (fun ls' hl' => k p e s m args below meth c C H locs ls' hR hL (kx_has.st1 hl'))
theorem kx_lstore_n {kn : Fin 4} {i : Nat} (hd : decode f.2.2.1.2.1 pc = .ok (.lstore_n kn, 1)) (hi : (kn : Nat) = i) {x : Int64} (hn : i + 1 < f.2.2.1.2.2.1) (k : kx_X f cells slots (pc + 1) (kx_s2 lv i (.long x)) st h) : kx_X f cells slots pc lv (.long x :: st) h := by
  intro p e s m args below meth c C H locs ls hR hL hl
  exact lv_lstore_n C.1 C.2.1 hd hi hl hn rfl (fun ls' hl' => k p e s m args below meth c C H locs ls' hR hL (kx_has.st2 hl'))
theorem kx_lstore {i : Nat} (hd : decode f.2.2.1.2.1 pc = .ok (.lstore i, 2)) {x : Int64} (hn : i + 1 < f.2.2.1.2.2.1) (k : kx_X f cells slots (pc + 2) (kx_s2 lv i (.long x)) st h) : kx_X f cells slots pc lv (.long x :: st) h := by
  intro p e s m args below meth c C H locs ls hR hL hl
  exact lv_lstore C.1 C.2.1 hd hl hn rfl (fun ls' hl' => k p e s m args below meth c C H locs ls' hR hL (kx_has.st2 hl'))
theorem kx_astore_n {kn : Fin 4} {i : Nat} (hd : decode f.2.2.1.2.1 pc = .ok (.astore_n kn, 1)) (hi : (kn : Nat) = i) {x : Nat} (hn : i < f.2.2.1.2.2.1) (k : kx_X f cells slots (pc + 1) (kx_s1 lv i (.ref x)) st h) : kx_X f cells slots pc lv (.ref x :: st) h := by
  intro p e s m args below meth c C H locs ls hR hL hl
  exact lv_astore_n C.1 C.2.1 hd hi hl hn rfl (fun ls' hl' => k p e s m args below meth c C H locs ls' hR hL (kx_has.st1 hl'))
theorem kx_astore {i : Nat} (hd : decode f.2.2.1.2.1 pc = .ok (.astore i, 2)) {x : Nat} (hn : i < f.2.2.1.2.2.1) (k : kx_X f cells slots (pc + 2) (kx_s1 lv i (.ref x)) st h) : kx_X f cells slots pc lv (.ref x :: st) h := by
  intro p e s m args below meth c C H locs ls hR hL hl
  exact lv_astore C.1 C.2.1 hd hl hn rfl (fun ls' hl' => k p e s m args below meth c C H locs ls' hR hL (kx_has.st1 hl'))
theorem kx_astore_nN {kn : Fin 4} {i : Nat} (hd : decode f.2.2.1.2.1 pc = .ok (.astore_n kn, 1)) (hi : (kn : Nat) = i) (hn : i < f.2.2.1.2.2.1) (k : kx_X f cells slots (pc + 1) (kx_s1 lv i (.null)) st h) : kx_X f cells slots pc lv (.null :: st) h := by
  intro p e s m args below meth c C H locs ls hR hL hl
  exact lv_astore_nN C.1 C.2.1 hd hi hl hn rfl (fun ls' hl' => k p e s m args below meth c C H locs ls' hR hL (kx_has.st1 hl'))
theorem kx_astoreN {i : Nat} (hd : decode f.2.2.1.2.1 pc = .ok (.astore i, 2)) (hn : i < f.2.2.1.2.2.1) (k : kx_X f cells slots (pc + 2) (kx_s1 lv i (.null)) st h) : kx_X f cells slots pc lv (.null :: st) h := by
  intro p e s m args below meth c C H locs ls hR hL hl
  exact lv_astoreN C.1 C.2.1 hd hl hn rfl (fun ls' hl' => k p e s m args below meth c C H locs ls' hR hL (kx_has.st1 hl'))
theorem kx_iinc {i : Nat} {n : Int} {x v : Int32} (hd : decode f.2.2.1.2.1 pc = .ok (.iinc i n, 3)) (hx : lv[i]? = some (some (.int x))) (hn : i < f.2.2.1.2.2.1) (hv : x + Int32.ofInt n = v) (k : kx_X f cells slots (pc + 3) (kx_s1 lv i (.int v)) st h) : kx_X f cells slots pc lv st h := by
  intro p e s m args below meth c C H locs ls hR hL hl
  obtain ⟨k9, hk9⟩ := List.getElem?_of_mem (kx_l_mem (g := f.2.1).mpr ⟨_, hx, rfl⟩)
  exact lv_iinc C.1 C.2.1 hd hl (k := k9) hk9 hv hn rfl (fun ls' hl' => k p e s m args below meth c C H locs ls' hR hL (kx_has.st1 hl'))
theorem kx_iadd {x y : Int32} (hd : decode f.2.2.1.2.1 pc = .ok (.iadd, 1)) (k : kx_X f cells slots (pc + 1) lv (.int (x + y) :: st) h) : kx_X f cells slots pc lv (.int y :: .int x :: st) h := by
  intro p e s m args below meth c C H locs ls hR hL hl
  exact lv_iadd C.1 C.2.1 hd (k p e s m args below meth c C H locs ls hR hL hl)
theorem kx_isub {x y : Int32} (hd : decode f.2.2.1.2.1 pc = .ok (.isub, 1)) (k : kx_X f cells slots (pc + 1) lv (.int (x - y) :: st) h) : kx_X f cells slots pc lv (.int y :: .int x :: st) h := by
  intro p e s m args below meth c C H locs ls hR hL hl
  exact lv_isub C.1 C.2.1 hd (k p e s m args below meth c C H locs ls hR hL hl)
theorem kx_imul {x y : Int32} (hd : decode f.2.2.1.2.1 pc = .ok (.imul, 1)) (k : kx_X f cells slots (pc + 1) lv (.int (x * y) :: st) h) : kx_X f cells slots pc lv (.int y :: .int x :: st) h := by
  intro p e s m args below meth c C H locs ls hR hL hl
  exact lv_imul C.1 C.2.1 hd (k p e s m args below meth c C H locs ls hR hL hl)
theorem kx_iand {x y : Int32} (hd : decode f.2.2.1.2.1 pc = .ok (.iand, 1)) (k : kx_X f cells slots (pc + 1) lv (.int (x &&& y) :: st) h) : kx_X f cells slots pc lv (.int y :: .int x :: st) h := by
  intro p e s m args below meth c C H locs ls hR hL hl
  exact lv_iand C.1 C.2.1 hd (k p e s m args below meth c C H locs ls hR hL hl)
theorem kx_ior {x y : Int32} (hd : decode f.2.2.1.2.1 pc = .ok (.ior, 1)) (k : kx_X f cells slots (pc + 1) lv (.int (x ||| y) :: st) h) : kx_X f cells slots pc lv (.int y :: .int x :: st) h := by
  intro p e s m args below meth c C H locs ls hR hL hl
  exact lv_ior C.1 C.2.1 hd (k p e s m args below meth c C H locs ls hR hL hl)
theorem kx_ixor {x y : Int32} (hd : decode f.2.2.1.2.1 pc = .ok (.ixor, 1)) (k : kx_X f cells slots (pc + 1) lv (.int (x ^^^ y) :: st) h) : kx_X f cells slots pc lv (.int y :: .int x :: st) h := by
  intro p e s m args below meth c C H locs ls hR hL hl
  exact lv_ixor C.1 C.2.1 hd (k p e s m args below meth c C H locs ls hR hL hl)
theorem kx_ladd {x y : Int64} (hd : decode f.2.2.1.2.1 pc = .ok (.ladd, 1)) (k : kx_X f cells slots (pc + 1) lv (.long (x + y) :: st) h) : kx_X f cells slots pc lv (.long y :: .long x :: st) h := by
  intro p e s m args below meth c C H locs ls hR hL hl
  exact lv_ladd C.1 C.2.1 hd (k p e s m args below meth c C H locs ls hR hL hl)
theorem kx_lsub {x y : Int64} (hd : decode f.2.2.1.2.1 pc = .ok (.lsub, 1)) (k : kx_X f cells slots (pc + 1) lv (.long (x - y) :: st) h) : kx_X f cells slots pc lv (.long y :: .long x :: st) h := by
  intro p e s m args below meth c C H locs ls hR hL hl
  exact lv_lsub C.1 C.2.1 hd (k p e s m args below meth c C H locs ls hR hL hl)
theorem kx_lmul {x y : Int64} (hd : decode f.2.2.1.2.1 pc = .ok (.lmul, 1)) (k : kx_X f cells slots (pc + 1) lv (.long (x * y) :: st) h) : kx_X f cells slots pc lv (.long y :: .long x :: st) h := by
  intro p e s m args below meth c C H locs ls hR hL hl
  exact lv_lmul C.1 C.2.1 hd (k p e s m args below meth c C H locs ls hR hL hl)
theorem kx_land {x y : Int64} (hd : decode f.2.2.1.2.1 pc = .ok (.land, 1)) (k : kx_X f cells slots (pc + 1) lv (.long (x &&& y) :: st) h) : kx_X f cells slots pc lv (.long y :: .long x :: st) h := by
  intro p e s m args below meth c C H locs ls hR hL hl
  exact lv_land C.1 C.2.1 hd (k p e s m args below meth c C H locs ls hR hL hl)
theorem kx_lor {x y : Int64} (hd : decode f.2.2.1.2.1 pc = .ok (.lor, 1)) (k : kx_X f cells slots (pc + 1) lv (.long (x ||| y) :: st) h) : kx_X f cells slots pc lv (.long y :: .long x :: st) h := by
  intro p e s m args below meth c C H locs ls hR hL hl
  exact lv_lor C.1 C.2.1 hd (k p e s m args below meth c C H locs ls hR hL hl)
theorem kx_lxor {x y : Int64} (hd : decode f.2.2.1.2.1 pc = .ok (.lxor, 1)) (k : kx_X f cells slots (pc + 1) lv (.long (x ^^^ y) :: st) h) : kx_X f cells slots pc lv (.long y :: .long x :: st) h := by
  intro p e s m args below meth c C H locs ls hR hL hl
  exact lv_lxor C.1 C.2.1 hd (k p e s m args below meth c C H locs ls hR hL hl)
theorem kx_idiv {x y : Int32} (hd : decode f.2.2.1.2.1 pc = .ok (.idiv, 1)) (hne : ¬ y = 0) (k : kx_X f cells slots (pc + 1) lv (.int (x / y) :: st) h) : kx_X f cells slots pc lv (.int y :: .int x :: st) h := by
  intro p e s m args below meth c C H locs ls hR hL hl
  exact lv_idiv C.1 C.2.1 hd hne (k p e s m args below meth c C H locs ls hR hL hl)
theorem kx_ldiv {x y : Int64} (hd : decode f.2.2.1.2.1 pc = .ok (.ldiv, 1)) (hne : ¬ y = 0) (k : kx_X f cells slots (pc + 1) lv (.long (x / y) :: st) h) : kx_X f cells slots pc lv (.long y :: .long x :: st) h := by
  intro p e s m args below meth c C H locs ls hR hL hl
  exact lv_ldiv C.1 C.2.1 hd hne (k p e s m args below meth c C H locs ls hR hL hl)
theorem kx_lrem {x y : Int64} (hd : decode f.2.2.1.2.1 pc = .ok (.lrem, 1)) (hne : ¬ y = 0) (k : kx_X f cells slots (pc + 1) lv (.long (x - x / y * y) :: st) h) : kx_X f cells slots pc lv (.long y :: .long x :: st) h := by
  intro p e s m args below meth c C H locs ls hR hL hl
  exact lv_lrem C.1 C.2.1 hd hne (k p e s m args below meth c C H locs ls hR hL hl)
theorem kx_irem {x y : Int32} (hd : decode f.2.2.1.2.1 pc = .ok (.irem, 1)) (hne : ¬ y = 0) (k : kx_X f cells slots (pc + 1) lv (.int (x - x / y * y) :: st) h) : kx_X f cells slots pc lv (.int y :: .int x :: st) h := by
  intro p e s m args below meth c C H locs ls hR hL hl
  exact lv_irem C.1 C.2.1 hd hne (k p e s m args below meth c C H locs ls hR hL hl)
theorem kx_ishl {x y : Int32} (hd : decode f.2.2.1.2.1 pc = .ok (.ishl, 1)) (k : kx_X f cells slots (pc + 1) lv (.int (x <<< (y &&& 31)) :: st) h) : kx_X f cells slots pc lv (.int y :: .int x :: st) h := by
  intro p e s m args below meth c C H locs ls hR hL hl
  exact lv_ishl C.1 C.2.1 hd (k p e s m args below meth c C H locs ls hR hL hl)
theorem kx_ishr {x y : Int32} (hd : decode f.2.2.1.2.1 pc = .ok (.ishr, 1)) (k : kx_X f cells slots (pc + 1) lv (.int (x >>> (y &&& 31)) :: st) h) : kx_X f cells slots pc lv (.int y :: .int x :: st) h := by
  intro p e s m args below meth c C H locs ls hR hL hl
  exact lv_ishr C.1 C.2.1 hd (k p e s m args below meth c C H locs ls hR hL hl)
theorem kx_iushr {x y : Int32} (hd : decode f.2.2.1.2.1 pc = .ok (.iushr, 1)) (k : kx_X f cells slots (pc + 1) lv (.int (x.toUInt32 >>> (y.toUInt32 &&& Int32.toUInt32 31)).toInt32 :: st) h) : kx_X f cells slots pc lv (.int y :: .int x :: st) h := by
  intro p e s m args below meth c C H locs ls hR hL hl
  exact lv_iushr C.1 C.2.1 hd rfl (k p e s m args below meth c C H locs ls hR hL hl)
theorem kx_lushr {x : Int64} {y : Int32} (hd : decode f.2.2.1.2.1 pc = .ok (.lushr, 1)) (k : kx_X f cells slots (pc + 1) lv (.long (x.toUInt64 >>> (y.toInt64.toUInt64 &&& Int64.toUInt64 63)).toInt64 :: st) h) : kx_X f cells slots pc lv (.int y :: .long x :: st) h := by
  intro p e s m args below meth c C H locs ls hR hL hl
  exact lv_lushr C.1 C.2.1 hd rfl (k p e s m args below meth c C H locs ls hR hL hl)
theorem kx_lshl {x : Int64} {y : Int32} (hd : decode f.2.2.1.2.1 pc = .ok (.lshl, 1)) (k : kx_X f cells slots (pc + 1) lv (.long (x <<< (y.toInt64 &&& 63)) :: st) h) : kx_X f cells slots pc lv (.int y :: .long x :: st) h := by
  intro p e s m args below meth c C H locs ls hR hL hl
  exact lv_lshl C.1 C.2.1 hd rfl (k p e s m args below meth c C H locs ls hR hL hl)
theorem kx_lshr {x : Int64} {y : Int32} (hd : decode f.2.2.1.2.1 pc = .ok (.lshr, 1)) (k : kx_X f cells slots (pc + 1) lv (.long (x >>> (y.toInt64 &&& 63)) :: st) h) : kx_X f cells slots pc lv (.int y :: .long x :: st) h := by
  intro p e s m args below meth c C H locs ls hR hL hl
  exact lv_lshr C.1 C.2.1 hd rfl (k p e s m args below meth c C H locs ls hR hL hl)
theorem kx_i2l {x : Int32} (hd : decode f.2.2.1.2.1 pc = .ok (.i2l, 1)) (k : kx_X f cells slots (pc + 1) lv (.long x.toInt64 :: st) h) : kx_X f cells slots pc lv (.int x :: st) h := by
  intro p e s m args below meth c C H locs ls hR hL hl
  exact lv_i2l C.1 C.2.1 hd rfl (k p e s m args below meth c C H locs ls hR hL hl)
theorem kx_l2i {x : Int64} (hd : decode f.2.2.1.2.1 pc = .ok (.l2i, 1)) (k : kx_X f cells slots (pc + 1) lv (.int x.toInt32 :: st) h) : kx_X f cells slots pc lv (.long x :: st) h := by
  intro p e s m args below meth c C H locs ls hR hL hl
  exact lv_l2i C.1 C.2.1 hd rfl (k p e s m args below meth c C H locs ls hR hL hl)
theorem kx_i2b {x : Int32} (hd : decode f.2.2.1.2.1 pc = .ok (.i2b, 1)) (k : kx_X f cells slots (pc + 1) lv (.int x.toInt8.toInt32 :: st) h) : kx_X f cells slots pc lv (.int x :: st) h := by
  intro p e s m args below meth c C H locs ls hR hL hl
  exact lv_i2b C.1 C.2.1 hd rfl (k p e s m args below meth c C H locs ls hR hL hl)
theorem kx_i2c {x : Int32} (hd : decode f.2.2.1.2.1 pc = .ok (.i2c, 1)) (k : kx_X f cells slots (pc + 1) lv (.int (x.toUInt32 % 65536).toInt32 :: st) h) : kx_X f cells slots pc lv (.int x :: st) h := by
  intro p e s m args below meth c C H locs ls hR hL hl
  exact lv_i2c C.1 C.2.1 hd rfl (k p e s m args below meth c C H locs ls hR hL hl)
theorem kx_dup {v : Value} (hd : decode f.2.2.1.2.1 pc = .ok (.dup, 1)) (hc : v.category = 1) (k : kx_X f cells slots (pc + 1) lv (v :: v :: st) h) : kx_X f cells slots pc lv (v :: st) h := by
  intro p e s m args below meth c C H locs ls hR hL hl
  exact lv_dup C.1 C.2.1 hd ((kx_cv_cat _ _).trans hc) (k p e s m args below meth c C H locs ls hR hL hl)
theorem kx_pop {v : Value} (hd : decode f.2.2.1.2.1 pc = .ok (.pop, 1)) (hc : v.category = 1) (k : kx_X f cells slots (pc + 1) lv st h) : kx_X f cells slots pc lv (v :: st) h := by
  intro p e s m args below meth c C H locs ls hR hL hl
  exact lv_pop C.1 C.2.1 hd ((kx_cv_cat _ _).trans hc) (k p e s m args below meth c C H locs ls hR hL hl)
theorem kx_dup_x1 {v w : Value} (hd : decode f.2.2.1.2.1 pc = .ok (.dup_x1, 1)) (hc : v.category = 1) (hc2 : w.category = 1) (k : kx_X f cells slots (pc + 1) lv (v :: w :: v :: st) h) : kx_X f cells slots pc lv (v :: w :: st) h := by
  intro p e s m args below meth c C H locs ls hR hL hl
  exact lv_dup_x1 C.1 C.2.1 hd ((kx_cv_cat _ _).trans hc) ((kx_cv_cat _ _).trans hc2) (k p e s m args below meth c C H locs ls hR hL hl)
theorem kx_dup2 {v w : Value} (hd : decode f.2.2.1.2.1 pc = .ok (.dup2, 1)) (hc : v.category = 1) (hc2 : w.category = 1) (k : kx_X f cells slots (pc + 1) lv (v :: w :: v :: w :: st) h) : kx_X f cells slots pc lv (v :: w :: st) h := by
  intro p e s m args below meth c C H locs ls hR hL hl
  exact lv_dup2_11 C.1 C.2.1 hd ((kx_cv_cat _ _).trans hc) ((kx_cv_cat _ _).trans hc2) (k p e s m args below meth c C H locs ls hR hL hl)
theorem kx_icmp_eq {x y : Int32} {off : Int} {tgt : Nat} (hd : decode f.2.2.1.2.1 pc = .ok (.if_icmp .eq off, 3)) (ht : (pc : Int) + off = (tgt : Int)) (kt : x = y → kx_X f cells slots tgt lv st h) (kf : ¬ x = y → kx_X f cells slots (pc + 3) lv st h) : kx_X f cells slots pc lv (.int y :: .int x :: st) h := by
  intro p e s m args below meth c C H locs ls hR hL hl
  exact lv_icmp_eq C.1 C.2.1 hd ht (fun q => kt q p e s m args below meth c C H locs ls hR hL hl) (fun q => kf q p e s m args below meth c C H locs ls hR hL hl)
theorem kx_if_eq {x : Int32} {off : Int} {tgt : Nat} (hd : decode f.2.2.1.2.1 pc = .ok (.ifCond .eq off, 3)) (ht : (pc : Int) + off = (tgt : Int)) (kt : x = 0 → kx_X f cells slots tgt lv st h) (kf : ¬ x = 0 → kx_X f cells slots (pc + 3) lv st h) : kx_X f cells slots pc lv (.int x :: st) h := by
  intro p e s m args below meth c C H locs ls hR hL hl
  exact lv_if_eq C.1 C.2.1 hd ht (fun q => kt q p e s m args below meth c C H locs ls hR hL hl) (fun q => kf q p e s m args below meth c C H locs ls hR hL hl)
theorem kx_icmp_ne {x y : Int32} {off : Int} {tgt : Nat} (hd : decode f.2.2.1.2.1 pc = .ok (.if_icmp .ne off, 3)) (ht : (pc : Int) + off = (tgt : Int)) (kt : ¬ x = y → kx_X f cells slots tgt lv st h) (kf : x = y → kx_X f cells slots (pc + 3) lv st h) : kx_X f cells slots pc lv (.int y :: .int x :: st) h := by
  intro p e s m args below meth c C H locs ls hR hL hl
  exact lv_icmp_ne C.1 C.2.1 hd ht (fun q => kt q p e s m args below meth c C H locs ls hR hL hl) (fun q => kf q p e s m args below meth c C H locs ls hR hL hl)
theorem kx_if_ne {x : Int32} {off : Int} {tgt : Nat} (hd : decode f.2.2.1.2.1 pc = .ok (.ifCond .ne off, 3)) (ht : (pc : Int) + off = (tgt : Int)) (kt : ¬ x = 0 → kx_X f cells slots tgt lv st h) (kf : x = 0 → kx_X f cells slots (pc + 3) lv st h) : kx_X f cells slots pc lv (.int x :: st) h := by
  intro p e s m args below meth c C H locs ls hR hL hl
  exact lv_if_ne C.1 C.2.1 hd ht (fun q => kt q p e s m args below meth c C H locs ls hR hL hl) (fun q => kf q p e s m args below meth c C H locs ls hR hL hl)
theorem kx_icmp_lt {x y : Int32} {off : Int} {tgt : Nat} (hd : decode f.2.2.1.2.1 pc = .ok (.if_icmp .lt off, 3)) (ht : (pc : Int) + off = (tgt : Int)) (kt : x < y → kx_X f cells slots tgt lv st h) (kf : ¬ x < y → kx_X f cells slots (pc + 3) lv st h) : kx_X f cells slots pc lv (.int y :: .int x :: st) h := by
  intro p e s m args below meth c C H locs ls hR hL hl
  exact lv_icmp_lt C.1 C.2.1 hd ht (fun q => kt q p e s m args below meth c C H locs ls hR hL hl) (fun q => kf q p e s m args below meth c C H locs ls hR hL hl)
theorem kx_if_lt {x : Int32} {off : Int} {tgt : Nat} (hd : decode f.2.2.1.2.1 pc = .ok (.ifCond .lt off, 3)) (ht : (pc : Int) + off = (tgt : Int)) (kt : x < 0 → kx_X f cells slots tgt lv st h) (kf : ¬ x < 0 → kx_X f cells slots (pc + 3) lv st h) : kx_X f cells slots pc lv (.int x :: st) h := by
  intro p e s m args below meth c C H locs ls hR hL hl
  exact lv_if_lt C.1 C.2.1 hd ht (fun q => kt q p e s m args below meth c C H locs ls hR hL hl) (fun q => kf q p e s m args below meth c C H locs ls hR hL hl)
theorem kx_icmp_ge {x y : Int32} {off : Int} {tgt : Nat} (hd : decode f.2.2.1.2.1 pc = .ok (.if_icmp .ge off, 3)) (ht : (pc : Int) + off = (tgt : Int)) (kt : y ≤ x → kx_X f cells slots tgt lv st h) (kf : ¬ y ≤ x → kx_X f cells slots (pc + 3) lv st h) : kx_X f cells slots pc lv (.int y :: .int x :: st) h := by
  intro p e s m args below meth c C H locs ls hR hL hl
  exact lv_icmp_ge C.1 C.2.1 hd ht (fun q => kt q p e s m args below meth c C H locs ls hR hL hl) (fun q => kf q p e s m args below meth c C H locs ls hR hL hl)
theorem kx_if_ge {x : Int32} {off : Int} {tgt : Nat} (hd : decode f.2.2.1.2.1 pc = .ok (.ifCond .ge off, 3)) (ht : (pc : Int) + off = (tgt : Int)) (kt : 0 ≤ x → kx_X f cells slots tgt lv st h) (kf : ¬ 0 ≤ x → kx_X f cells slots (pc + 3) lv st h) : kx_X f cells slots pc lv (.int x :: st) h := by
  intro p e s m args below meth c C H locs ls hR hL hl
  exact lv_if_ge C.1 C.2.1 hd ht (fun q => kt q p e s m args below meth c C H locs ls hR hL hl) (fun q => kf q p e s m args below meth c C H locs ls hR hL hl)
theorem kx_icmp_gt {x y : Int32} {off : Int} {tgt : Nat} (hd : decode f.2.2.1.2.1 pc = .ok (.if_icmp .gt off, 3)) (ht : (pc : Int) + off = (tgt : Int)) (kt : y < x → kx_X f cells slots tgt lv st h) (kf : ¬ y < x → kx_X f cells slots (pc + 3) lv st h) : kx_X f cells slots pc lv (.int y :: .int x :: st) h := by
  intro p e s m args below meth c C H locs ls hR hL hl
  exact lv_icmp_gt C.1 C.2.1 hd ht (fun q => kt q p e s m args below meth c C H locs ls hR hL hl) (fun q => kf q p e s m args below meth c C H locs ls hR hL hl)
theorem kx_if_gt {x : Int32} {off : Int} {tgt : Nat} (hd : decode f.2.2.1.2.1 pc = .ok (.ifCond .gt off, 3)) (ht : (pc : Int) + off = (tgt : Int)) (kt : 0 < x → kx_X f cells slots tgt lv st h) (kf : ¬ 0 < x → kx_X f cells slots (pc + 3) lv st h) : kx_X f cells slots pc lv (.int x :: st) h := by
  intro p e s m args below meth c C H locs ls hR hL hl
  exact lv_if_gt C.1 C.2.1 hd ht (fun q => kt q p e s m args below meth c C H locs ls hR hL hl) (fun q => kf q p e s m args below meth c C H locs ls hR hL hl)
theorem kx_icmp_le {x y : Int32} {off : Int} {tgt : Nat} (hd : decode f.2.2.1.2.1 pc = .ok (.if_icmp .le off, 3)) (ht : (pc : Int) + off = (tgt : Int)) (kt : x ≤ y → kx_X f cells slots tgt lv st h) (kf : ¬ x ≤ y → kx_X f cells slots (pc + 3) lv st h) : kx_X f cells slots pc lv (.int y :: .int x :: st) h := by
  intro p e s m args below meth c C H locs ls hR hL hl
  exact lv_icmp_le C.1 C.2.1 hd ht (fun q => kt q p e s m args below meth c C H locs ls hR hL hl) (fun q => kf q p e s m args below meth c C H locs ls hR hL hl)
theorem kx_if_le {x : Int32} {off : Int} {tgt : Nat} (hd : decode f.2.2.1.2.1 pc = .ok (.ifCond .le off, 3)) (ht : (pc : Int) + off = (tgt : Int)) (kt : x ≤ 0 → kx_X f cells slots tgt lv st h) (kf : ¬ x ≤ 0 → kx_X f cells slots (pc + 3) lv st h) : kx_X f cells slots pc lv (.int x :: st) h := by
  intro p e s m args below meth c C H locs ls hR hL hl
  exact lv_if_le C.1 C.2.1 hd ht (fun q => kt q p e s m args below meth c C H locs ls hR hL hl) (fun q => kf q p e s m args below meth c C H locs ls hR hL hl)
theorem kx_goto {off : Int} {tgt : Nat} (hd : decode f.2.2.1.2.1 pc = .ok (.goto off, 3)) (ht : (pc : Int) + off = (tgt : Int)) (k : kx_X f cells slots tgt lv st h) : kx_X f cells slots pc lv st h := by
  intro p e s m args below meth c C H locs ls hR hL hl
  exact lv_goto C.1 C.2.1 hd ht (k p e s m args below meth c C H locs ls hR hL hl)
theorem kx_ifnull {x : Nat} {off : Int} (hd : decode f.2.2.1.2.1 pc = .ok (.ifnull off, 3)) (k : kx_X f cells slots (pc + 3) lv (st) h) : kx_X f cells slots pc lv (.ref x :: st) h := by
  intro p e s m args below meth c C H locs ls hR hL hl
  exact lv_ifnull C.1 C.2.1 hd (k p e s m args below meth c C H locs ls hR hL hl)
theorem kx_ifnonnullN {off : Int} (hd : decode f.2.2.1.2.1 pc = .ok (.ifnonnull off, 3)) (k : kx_X f cells slots (pc + 3) lv (st) h) : kx_X f cells slots pc lv (.null :: st) h := by
  intro p e s m args below meth c C H locs ls hR hL hl
  exact lv_ifnonnullN C.1 C.2.1 hd (k p e s m args below meth c C H locs ls hR hL hl)
theorem kx_ifnonnull {x : Nat} {off : Int} {tgt : Nat} (hd : decode f.2.2.1.2.1 pc = .ok (.ifnonnull off, 3)) (ht : (pc : Int) + off = (tgt : Int)) (k : kx_X f cells slots tgt lv st h) : kx_X f cells slots pc lv (.ref x :: st) h := by
  intro p e s m args below meth c C H locs ls hR hL hl
  exact lv_ifnonnull C.1 C.2.1 hd ht (k p e s m args below meth c C H locs ls hR hL hl)
theorem kx_ifnullN {off : Int} {tgt : Nat} (hd : decode f.2.2.1.2.1 pc = .ok (.ifnull off, 3)) (ht : (pc : Int) + off = (tgt : Int)) (k : kx_X f cells slots tgt lv st h) : kx_X f cells slots pc lv (.null :: st) h := by
  intro p e s m args below meth c C H locs ls hR hL hl
  exact lv_ifnullN C.1 C.2.1 hd ht (k p e s m args below meth c C H locs ls hR hL hl)
theorem kx_lcmp {x y : Int64} (hd : decode f.2.2.1.2.1 pc = .ok (.lcmp, 1)) (k : kx_X f cells slots (pc + 1) lv (.int (lg_cmp x y) :: st) h) : kx_X f cells slots pc lv (.long y :: .long x :: st) h := by
  intro p e s m args below meth c C H locs ls hR hL hl
  exact W.lcmp C.1 C.2.1 hd (k p e s m args below meth c C H locs ls hR hL hl)
theorem kx_tableOut {dflt lo hi : Int} {offs : Array Int} {len : Nat} {x : Int32} {tgt : Nat} (hd : decode f.2.2.1.2.1 pc = .ok (.tableswitch dflt lo hi offs, len)) (hx : x.toInt < lo ∨ hi < x.toInt) (ht : (pc : Int) + dflt = (tgt : Int)) (k : kx_X f cells slots tgt lv st h) : kx_X f cells slots pc lv (.int x :: st) h := by
  intro p e s m args below meth c C H locs ls hR hL hl
  exact lv_tableOut C.1 C.2.1 hd hx ht (k p e s m args below meth c C H locs ls hR hL hl)
theorem kx_tableIn {dflt lo hi : Int} {offs : Array Int} {len : Nat} {x : Int32} {off : Int} {tgt : Nat} (hd : decode f.2.2.1.2.1 pc = .ok (.tableswitch dflt lo hi offs, len)) (h1 : ¬ x.toInt < lo) (h2 : ¬ hi < x.toInt) (ho : offs[(x.toInt - lo).toNat]? = some off) (ht : (pc : Int) + off = (tgt : Int)) (k : kx_X f cells slots tgt lv st h) : kx_X f cells slots pc lv (.int x :: st) h := by
  intro p e s m args below meth c C H locs ls hR hL hl
  exact lv_tableIn C.1 C.2.1 hd h1 h2 ho ht (k p e s m args below meth c C H locs ls hR hL hl)
theorem kx_lookup {dflt : Int} {ps : Array (Int × Int)} {len : Nat} {x : Int32} {off : Int} {tgt : Nat} (hd : decode f.2.2.1.2.1 pc = .ok (.lookupswitch dflt ps, len)) (hp : (ps.toList.zip (ps.toList.drop 1)).all (fun (a, next) => a.1 < next.1) = true) (ho : Op.lookupswitch.offset ps.toList dflt x.toInt = off) (ht : (pc : Int) + off = (tgt : Int)) (k : kx_X f cells slots tgt lv st h) : kx_X f cells slots pc lv (.int x :: st) h := by
  intro p e s m args below meth c C H locs ls hR hL hl
  exact lv_lookup C.1 C.2.1 hd hp ho ht (k p e s m args below meth c C H locs ls hR hL hl)
theorem kx_ldc {index : Nat} {v : Int32} (hw : Cond.constant f.2.2.1.1.cls index v ∈ kx_good) (hd : decode f.2.2.1.2.1 pc = .ok (.ldc index, 2)) (k : kx_X f cells slots (pc + 2) lv (.int v :: st) h) : kx_X f cells slots pc lv st h := by
  intro p e s m args below meth c C H locs ls hR hL hl
  exact lv_ldc C.1 C.2.1 C.2.2.2.2.1 (C.2.2.2.2.2.1 _ hw) hd (k p e s m args below meth c C H locs ls hR hL hl)
theorem kx_ldcw {index : Nat} {v : Int32} (hw : Cond.constant f.2.2.1.1.cls index v ∈ kx_good) (hd : decode f.2.2.1.2.1 pc = .ok (.ldc_w index, 3)) (k : kx_X f cells slots (pc + 3) lv (.int v :: st) h) : kx_X f cells slots pc lv st h := by
  intro p e s m args below meth c C H locs ls hR hL hl
  exact lv_ldcw C.1 C.2.1 C.2.2.2.2.1 (C.2.2.2.2.2.1 _ hw) hd (k p e s m args below meth c C H locs ls hR hL hl)
theorem kx_ldc2 {index : Nat} {v : Int64} (hw : Cond.constantLong f.2.2.1.1.cls index v ∈ kx_good) (hd : decode f.2.2.1.2.1 pc = .ok (.ldc2_w index, 3)) (k : kx_X f cells slots (pc + 3) lv (.long v :: st) h) : kx_X f cells slots pc lv st h := by
  intro p e s m args below meth c C H locs ls hR hL hl
  exact lv_ldc2 C.1 C.2.1 C.2.2.2.2.1 (C.2.2.2.2.2.1 _ hw) hd (k p e s m args below meth c C H locs ls hR hL hl)
theorem kx_iret {v : Int32} (hr : f.2.2.1.2.2.2 = some .int) (hd : decode f.2.2.1.2.1 pc = .ok (.ireturn, 1)) (hc : cells ≤ f.2.2.2.2.1) (hs : slots ≤ f.2.2.2.2.2.1) (hq : f.2.2.2.2.2.2 (some (.int v)) h) : kx_X f cells slots pc lv [.int v] h := by
  intro p e s m args below meth c C H locs ls hR hL hl
  refine W.widen hc hs ?_
  exact W.iret C.1 C.2.1 (C.2.2.1.trans hr) (fun t ht _ => ⟨some (.int v), h, rfl, by rw [ht]; exact hR, hq⟩) hL hd C.2.2.2.2.2.2.1
theorem kx_zret {v : Int32} {ty : FieldType} (hr : f.2.2.1.2.2.2 = some ty) (hn : narrow ty (.int v) = .int v) (hd : decode f.2.2.1.2.1 pc = .ok (.ireturn, 1)) (hc : cells ≤ f.2.2.2.2.1) (hs : slots ≤ f.2.2.2.2.2.1) (hq : f.2.2.2.2.2.2 (some (.int v)) h) : kx_X f cells slots pc lv [.int v] h := by
  intro p e s m args below meth c C H locs ls hR hL hl
  refine W.widen hc hs ?_
  exact W.zret C.1 C.2.1 (C.2.2.1.trans hr) hn (fun t ht _ => ⟨some (.int v), h, rfl, by rw [ht]; exact hR, hq⟩) hL hd C.2.2.2.2.2.2.1
theorem kx_lret {v : Int64} (hr : f.2.2.1.2.2.2 = some .long) (hd : decode f.2.2.1.2.1 pc = .ok (.lreturn, 1)) (hc : cells ≤ f.2.2.2.2.1) (hs : slots ≤ f.2.2.2.2.2.1) (hq : f.2.2.2.2.2.2 (some (.long v)) h) : kx_X f cells slots pc lv [.long v] h := by
  intro p e s m args below meth c C H locs ls hR hL hl
  refine W.widen hc hs ?_
  exact W.lret C.1 C.2.1 (C.2.2.1.trans hr) (fun t ht _ => ⟨some (.long v), h, rfl, by rw [ht]; exact hR, hq⟩) hL hd C.2.2.2.2.2.2.1
theorem kx_vret (hr : f.2.2.1.2.2.2 = none) (hd : decode f.2.2.1.2.1 pc = .ok (.return_, 1)) (hc : cells ≤ f.2.2.2.2.1) (hs : slots ≤ f.2.2.2.2.2.1) (hq : f.2.2.2.2.2.2 none h) : kx_X f cells slots pc lv [] h := by
  intro p e s m args below meth c C H locs ls hR hL hl
  refine W.widen hc hs ?_
  exact W.vret C.1 C.2.1 (C.2.2.1.trans hr) (fun t ht _ => ⟨none, h, rfl, by rw [ht]; exact hR, hq⟩) hL hd C.2.2.2.2.2.2.1
theorem kx_aret {r : Option Nat} {rt : FieldType} (hr : f.2.2.1.2.2.2 = some rt) (hrt : (∃ n, rt = .object n) ∨ ∃ t, rt = .array t) (hd : decode f.2.2.1.2.1 pc = .ok (.areturn, 1)) (hc : cells ≤ f.2.2.2.2.1) (hs : slots ≤ f.2.2.2.2.2.1) (hq : f.2.2.2.2.2.2 (some (kx_rf r)) h) : kx_X f cells slots pc lv [kx_rf r] h := by
  intro p e s m args below meth c C H locs ls hR hL hl
  refine W.widen hc hs ?_
  exact W.aret C.1 C.2.1 (C.2.2.1.trans hr) hrt (by cases r; exact Or.inl rfl; exact Or.inr ⟨_, rfl⟩) (fun t ht _ => ⟨some (kx_rf r), h, rfl, by rw [ht]; exact hR, hq⟩) hL hd C.2.2.2.2.2.2.1
end KXR
