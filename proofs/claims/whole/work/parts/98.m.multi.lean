/-! multianewarray: three rows of 60 ints -/
def ka_o (cA : ClassId) : Cell := { cls := cA, slots := Array.replicate 3 .null }
def ka_i (comp : ClassId) : Cell := { cls := comp, slots := Array.replicate 60 (.int 0) }
def ka_U0 (s : State) (cA : ClassId) : State := s.pushCell (ka_o cA)
def ka_c1 (s : State) (cA : ClassId) : Cell := (ka_o cA).setSlot 0 (.ref (ka_U0 s cA).heap.size)
def ka_U1 (s : State) (cA comp : ClassId) : State := ((ka_U0 s cA).pushCell (ka_i comp)).setCell s.heap.size (ka_c1 s cA)
def ka_c2 (s : State) (cA comp : ClassId) : Cell := (ka_c1 s cA).setSlot 1 (.ref (ka_U1 s cA comp).heap.size)
def ka_U2 (s : State) (cA comp : ClassId) : State := ((ka_U1 s cA comp).pushCell (ka_i comp)).setCell s.heap.size (ka_c2 s cA comp)
def ka_c3 (s : State) (cA comp : ClassId) : Cell := (ka_c2 s cA comp).setSlot 2 (.ref (ka_U2 s cA comp).heap.size)
def ka_U3 (s : State) (cA comp : ClassId) : State := ((ka_U2 s cA comp).pushCell (ka_i comp)).setCell s.heap.size (ka_c3 s cA comp)
theorem ka_sz {s : State} {cA comp : ClassId} : (ka_U0 s cA).heap.size = s.heap.size + 1 ∧ (ka_U1 s cA comp).heap.size = s.heap.size + 2 ∧ (ka_U2 s cA comp).heap.size = s.heap.size + 3 ∧ (ka_U3 s cA comp).heap.size = s.heap.size + 4 := by
  refine ⟨?_, ?_, ?_, ?_⟩ <;> simp [ka_U3, ka_U2, ka_U1, ka_U0, State.pushCell, State.setCell]
theorem ka_us {s : State} {cA comp : ClassId} : (ka_U0 s cA).slotsUsed = s.slotsUsed + 3 ∧ (ka_U1 s cA comp).slotsUsed = s.slotsUsed + 63 ∧ (ka_U2 s cA comp).slotsUsed = s.slotsUsed + 123 := by
  refine ⟨?_, ?_, ?_⟩ <;> simp [ka_U2, ka_U1, ka_U0, ka_o, ka_i, State.pushCell, State.setCell, Nat.add_assoc]
theorem ka_at {s : State} {cA comp : ClassId} : (ka_U0 s cA).heap[s.heap.size]? = some (ka_o cA) ∧ (ka_U1 s cA comp).heap[s.heap.size]? = some (ka_c1 s cA) ∧ (ka_U2 s cA comp).heap[s.heap.size]? = some (ka_c2 s cA comp) := by
  refine ⟨?_, ?_, ?_⟩ <;> simp [ka_U2, ka_U1, ka_U0, State.pushCell, State.setCell, Array.getElem?_setIfInBounds] <;> omega
theorem ka_in {E : CtlPost} {e : Env} {d : Bool} {acts : List Action} {s : State} {comp cc : ClassId} {kC : Class} {Q : Addr → Pre} (hkC : s.vm.classes[comp]? = some kC) (hkindC : kC.kind = .array cc .int) (hlim : ¬ 60 > e.platform.arrayLengthLimit) (hheap : ¬ 60 * componentBytes .int > e.platform.maxHeapBytes) (hcells : s.heap.size < e.platform.maxCells) (hslots : s.slotsUsed + 60 ≤ e.platform.maxSlots) (hq : ∀ acts', Q s.heap.size d acts' (s.pushCell (ka_i comp))) : wp (Op.multianewarray.make comp [60]) Q E e d acts s := by
  unfold Op.multianewarray.make
  rw [if_neg (by decide)]
  simp only [wp_bind', W.theClass, hkC, Option.some.injEq, exists_eq_left', hkindC]
  exact W.newArray_of hkC hkindC hlim hheap hcells hslots rfl hq
theorem ka_make {E : CtlPost} {e : Env} {d : Bool} {acts : List Action} {s : State} {cA comp cc : ClassId} {kA kC : Class} {Q : Addr → Pre} (hkA : s.vm.classes[cA]? = some kA) (hkindA : kA.kind = .array comp (.array .int)) (hkC : s.vm.classes[comp]? = some kC) (hkindC : kC.kind = .array cc .int) (hl1 : ¬ 3 > e.platform.arrayLengthLimit) (hh1 : ¬ 3 * componentBytes (.array .int) > e.platform.maxHeapBytes) (hl2 : ¬ 60 > e.platform.arrayLengthLimit) (hh2 : ¬ 60 * componentBytes .int > e.platform.maxHeapBytes) (hcells : s.heap.size + 4 ≤ e.platform.maxCells) (hslots : s.slotsUsed + 183 ≤ e.platform.maxSlots) (hq : ∀ d' acts', Q s.heap.size d' acts' (ka_U3 s cA comp)) : wp (Op.multianewarray.make cA [3, 60]) Q E e d acts s := by
  obtain ⟨z0, z1, z2, z3⟩ := @ka_sz s cA comp
  obtain ⟨u0, u1, u2⟩ := @ka_us s cA comp
  obtain ⟨a0, a1, a2⟩ := @ka_at s cA comp
  have ft : ∀ (S : State) (i : Nat) (x : Addr), S.vm = s.vm → S.fitsSlot cA .none i (.ref x) = true := fun S i x hS => by
    simp [State.fitsSlot, State.slotType?, hS, hkA, hkindA, fits]
  unfold Op.multianewarray.make
  rw [if_neg (by decide)]
  simp only [wp_bind', W.theClass, hkA, Option.some.injEq, exists_eq_left', hkindA]
  refine W.newArray_of hkA hkindA hl1 hh1 (by omega) (by show s.slotsUsed + 3 ≤ _; omega) rfl (fun acts1 => ?_)
  rw [if_neg (by decide)]
  simp only [wp_bind', Std.Legacy.Range.forIn_eq_forIn_range']
  rw [show List.range' 0 (Std.Legacy.Range.size [:Int32.toNatClampNeg 3]) 1 = [0, 1, 2] from by decide]
  simp only [List.forIn_cons, List.forIn_nil, wp_bind']
  refine ka_in (s := ka_U0 s cA) hkC hkindC hl2 hh2 (by omega) (by omega) (fun actsx => ?_)
  simp only [List.forIn_cons, List.forIn_nil, wp_bind', wp_pure', W.writeLoc]
  refine ⟨ka_o cA, ?_, (fun z => by cases z), ?_, ft _ _ _ rfl, ?_⟩
  · exact (State.heap_pushCell_of_lt (s := ka_U0 s cA) (c := ka_i comp) (a := s.heap.size) (by rw [z0]; exact Nat.lt_add_of_pos_right (by decide))).trans a0
  · simp [ka_o, Cell.setSlot]
  try simp only [List.forIn_cons, List.forIn_nil, wp_bind', wp_pure']
  refine ka_in (s := ka_U1 s cA comp) hkC hkindC hl2 hh2 (by omega) (by omega) (fun actsx => ?_)
  simp only [List.forIn_cons, List.forIn_nil, wp_bind', wp_pure', W.writeLoc]
  refine ⟨ka_c1 s cA, ?_, (fun z => by cases z), ?_, ft _ _ _ rfl, ?_⟩
  · exact (State.heap_pushCell_of_lt (s := ka_U1 s cA comp) (c := ka_i comp) (a := s.heap.size) (by rw [z1]; exact Nat.lt_add_of_pos_right (by decide))).trans a1
  · simp [ka_c1, ka_o, Cell.setSlot]
  try simp only [List.forIn_cons, List.forIn_nil, wp_bind', wp_pure']
  refine ka_in (s := ka_U2 s cA comp) hkC hkindC hl2 hh2 (by omega) (by omega) (fun actsx => ?_)
  simp only [List.forIn_cons, List.forIn_nil, wp_bind', wp_pure', W.writeLoc]
  refine ⟨ka_c2 s cA comp, ?_, (fun z => by cases z), ?_, ft _ _ _ rfl, ?_⟩
  · exact (State.heap_pushCell_of_lt (s := ka_U2 s cA comp) (c := ka_i comp) (a := s.heap.size) (by rw [z2]; exact Nat.lt_add_of_pos_right (by decide))).trans a2
  · simp [ka_c2, ka_c1, ka_o, Cell.setSlot]
  try simp only [List.forIn_nil, wp_bind', wp_pure']
  exact hq _ _
section KAM
variable {p : Program} {l : Launch} {e : Env} {R : Room} {s : State} {m : MethodId} {args : Array Value} {below : List Frame} {meth : Method} {c : Code} {T : State} {locs : List Loc} {cells slots : Nat}
theorem ka_stand (X : Stand p l e R s m args below meth c T locs cells slots) (cA comp : ClassId) : Stand p l e R s m args below meth c (ka_U3 T cA comp) (locs ++ [⟨T.heap.size, 0⟩] ++ [⟨T.heap.size, 1⟩] ++ [⟨T.heap.size, 2⟩]) (cells + 4) (slots + 183) := by
  obtain ⟨z0, z1, z2, z3⟩ := @ka_sz T cA comp
  obtain ⟨a0, a1, a2⟩ := @ka_at T cA comp
  have X0 : Stand p l e R s m args below meth c (ka_U0 T cA) locs (cells + 1) (slots + 3) := X.pushed (ka_o cA)
  have X1 : Stand p l e R s m args below meth c (ka_U1 T cA comp) (locs ++ [⟨T.heap.size, 0⟩]) (cells + 2) (slots + 63) := (X0.pushed (ka_i comp)).stored (a := T.heap.size) (cell := ka_o cA) ((State.heap_pushCell_of_lt (s := ka_U0 T cA) (c := ka_i comp) (a := T.heap.size) (by rw [z0]; exact Nat.lt_add_of_pos_right (by decide))).trans a0) 0 (.ref (ka_U0 T cA).heap.size)
  have X2 : Stand p l e R s m args below meth c (ka_U2 T cA comp) (locs ++ [⟨T.heap.size, 0⟩] ++ [⟨T.heap.size, 1⟩]) (cells + 3) (slots + 123) := (X1.pushed (ka_i comp)).stored (a := T.heap.size) (cell := ka_c1 T cA) ((State.heap_pushCell_of_lt (s := ka_U1 T cA comp) (c := ka_i comp) (a := T.heap.size) (by rw [z1]; exact Nat.lt_add_of_pos_right (by decide))).trans a1) 1 (.ref (ka_U1 T cA comp).heap.size)
  exact (X2.pushed (ka_i comp)).stored (a := T.heap.size) (cell := ka_c2 T cA comp) ((State.heap_pushCell_of_lt (s := ka_U2 T cA comp) (c := ka_i comp) (a := T.heap.size) (by rw [z2]; exact Nat.lt_add_of_pos_right (by decide))).trans a2) 2 (.ref (ka_U2 T cA comp).heap.size)
theorem ka_step (X : Stand p l e R s m args below meth c T locs cells slots) (hexec : p.tables.exec = Jvm.exec) {own : String} {index : Nat} (hown : s.vm.findClass own = some m.cls) (hclink : (Cond.classLink own index "[[I").before args s = true) {cA comp cc : ClassId} {kA kC : Class} (hfA : s.vm.findClass "[[I" = some cA) (hkA : s.vm.classes[cA]? = some kA) (hkindA : kA.kind = .array comp (.array .int)) (hkC : s.vm.classes[comp]? = some kC) (hkindC : kC.kind = .array cc .int)
    {g : JFrame} (hg : g.method = m) (hdg : decode c.code g.pc = .ok (.multianewarray index 2, 4)) {rest : List Value} (hstack : g.stack = .int 60 :: .int 3 :: rest) (hcells : cells + 4 ≤ R.cells) (hslots : slots + 183 ≤ R.slots) :
    ∃ vm₁ : Vm, Stand p l e R s m args below meth c (ka_U3 (T.setVm vm₁) cA comp) (locs ++ [⟨T.heap.size, 0⟩] ++ [⟨T.heap.size, 1⟩] ++ [⟨T.heap.size, 2⟩]) (cells + 4) (slots + 183) ∧ ∀ target, Steps p.tables e below ((ka_U3 (T.setVm vm₁) cA comp).setTop { g with pc := g.pc + 4, stack := .ref T.heap.size :: rest }) target → Steps p.tables e below (T.setTop g) target := by
  subst hg
  have hpl : e.platform.magicAccessors = ({} : Platform).magicAccessors := by rw [X.admits.platform]
  obtain ⟨c0, hfc0, hcl⟩ := Cond.classLink_spec hown hclink e.platform hpl
  cases hfA.symm.trans hfc0
  obtain ⟨hg₁, hwarm₁, hready₁⟩ := State.classEntry (e := e) X.warmed hcl
  generalize T.vm.noted g.method.cls index (.cls cA) = vm₁ at hg₁ hwarm₁ hready₁
  have hal : s.vm.Alike vm₁ := hwarm₁.alike
  obtain ⟨kA₁, hkA₁, heA⟩ := hal.2.2 _ _ hkA
  obtain ⟨kC₁, hkC₁, heC⟩ := hal.2.2 _ _ hkC
  have qA : kA₁.kind = .array comp (.array .int) := by rw [heA]; exact hkindA
  have qC : kC₁.kind = .array cc .int := by rw [heC]; exact hkindC
  obtain ⟨hr1, hr2⟩ := X.roomAbove hcells hslots
  have XU := ka_stand (X.noted hwarm₁) cA comp
  refine ⟨vm₁, XU, fun target hrest => ?_⟩
  jvm_step X.here [hexec, hdg]
  simp only [Op.multianewarray.sem, wp_bind', W.resolveClassAt_links (State.method?_setTop g X.here.top) hg₁]
  show wp (Jvm.popN [Value.int 3, Value.int 60].length) _ _ _ _ _ ((T.setVm vm₁).setTop g)
  rw [popN_top (s := T.setVm vm₁) (f := g) X.here.top (args := [.int 3, .int 60]) (rest := rest) hstack]
  simp only [List.mapM_cons, List.mapM_nil, wp_bind', wp_pure']
  refine ka_make (s := (T.setVm vm₁).setTop { g with stack := rest }) hkA₁ qA hkC₁ qC (by rw [Launch.admits_arrayLengthLimit X.admits]; decide) (by rw [Launch.admits_maxHeapBytes X.admits]; decide) (by rw [Launch.admits_arrayLengthLimit X.admits]; decide) (by rw [Launch.admits_maxHeapBytes X.admits]; decide) hr1 hr2 (fun d' acts' => ?_)
  rw [show ka_U3 ((T.setVm vm₁).setTop { g with stack := rest }) cA comp = (ka_U3 (T.setVm vm₁) cA comp).setTop { g with stack := rest } from rfl]
  simp only [wp_bind', W.mark, W.pushRef, State.topJava?_setTop' _ XU.here.top, Option.some.injEq, exists_eq_left', State.setTop_setTop]
  intro acts
  simp [jvm, XU.here.top]
  exact hrest
end KAM
