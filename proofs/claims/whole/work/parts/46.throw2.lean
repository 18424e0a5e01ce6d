/-! throws: the rows -/
section KTG
variable {E : CtlPost} {e : Env} {d : Bool} {acts : List Action} {s : State} {f : JFrame} {a : Addr} {Q : Handler → Pre}
theorem kt_goCold {x : ExceptionTableEntry} {t : List ExceptionTableEntry} {c : ClassId} {cell : Cell} {vm' : Vm} (hx : covers x f.pc = true) (h0 : x.catchType ≠ 0)
    (hg : (Jvm.resolveClass f.method.cls x.catchType).Gives e.toSetting s.vm (.ok c) vm') (hsz : vm'.classes.size ≤ s.vm.classes.size) (hcell : s.heap[a]? = some cell) (hobj : ∀ k, cell.vm ≠ .statics k)
    (hk : ∃ k, vm'.classes[cell.cls]? = some k) (hc : ∃ k, vm'.classes[c]? = some k) (hfit : vm'.assignable cell.cls c = true) :
    Sem.wp (findHandler.go f a (x :: t)) Q E e d acts s ↔ Q (.found x.handlerPc) d acts (s.setVm vm') := by
  simp only [covers] at hx
  obtain ⟨ha, ht⟩ := hg.op (op := VmOp.resolveClass f.method.cls x.catchType) rfl
  simp [findHandler.go, hx, h0, ha, ht, hsz, hcell, hobj, hk, hc, hfit, VmOp.dirties, VmOp.acts]
def kt_FindsC (e : Env) (s : State) (f : JFrame) (a : Addr) (h : Handler) (vm' : Vm) : Prop :=
  ∀ (Q : Handler → Pre) (E : CtlPost) (d : Bool) (acts : List Action), Sem.wp (findHandler f a) Q E e d acts s ↔ Q h d acts (s.setVm vm')
theorem kt_stepCold {r : List Frame} {pc : Nat} {vm' : Vm} (hfind : kt_FindsC e s f a (.found pc) vm') :
    (stepThrowing e s a (.java f :: r)).Is ((s.setVm vm').setFrames (.java { f with pc := pc, stack := [.ref a] } :: r)) [] := by
  simp only [stepThrowing, searchFrame, vmDo]
  generalize hr : Sem.go _ e false [] s = res
  obtain ⟨as, rfl, ha⟩ := Sem.eq_ok_of hr (a := Handler.found pc) (s' := s.setVm vm') (acts' := []) (by simp [hfind _ _ _ _])
  exact ⟨rfl, ha⟩
theorem kt_caught {tb : Tables} {g : JFrame} {c : Code} {below : List Frame} {target : State} {vm' : Vm} (h : At s g.method c below) {pc : Nat} (hfind : kt_FindsC e ((s.setTop g).pushFrame (.throwing a)) g a (.found pc) vm')
    (hrest : Steps tb e below ((s.setVm vm').setTop { g with pc := pc, stack := [.ref a] }) target) :
    Steps tb e below ((s.setTop g).pushFrame (.throwing a)) target := by
  obtain ⟨hgo, hw⟩ := h.throwing a
  refine Steps.head hgo hw ?_
  rw [stepThread_throwing (frames_entered h.top _), (kt_stepCold (s := (s.setTop g).pushFrame (.throwing a)) hfind).1]
  obtain ⟨g₀, hg⟩ := Option.isSome_iff_exists.mp h.top
  obtain ⟨r, hr⟩ := State.topJava?_eq_some.mp hg
  have hr' : (s.setVm vm').frames = .java g₀ :: r := hr
  rw [State.setTop_of_frames _ hr'] at hrest
  rw [hr, State.pushFrame, State.setTop_of_frames _ hr, State.setFrames_setFrames]
  have hz : ((s.setFrames (.throwing a :: (s.setFrames (.java g :: r)).frames)).setVm vm').setFrames (.java { g with pc := pc, stack := [.ref a] } :: r) = (s.setVm vm').setFrames (.java { g with pc := pc, stack := [.ref a] } :: r) := by
    rw [show (s.setFrames (.throwing a :: (s.setFrames (.java g :: r)).frames)).setVm vm' = (s.setVm vm').setFrames (.throwing a :: (s.setFrames (.java g :: r)).frames) from rfl, State.setFrames_setFrames]
  exact hz ▸ hrest
end KTG
section KTR
variable {f : kt_F} {cells slots pc : Nat} {lv : List (Option Value)} {st st0 : List Value} {h : kx_Mem} {ν : kx_M} {n idx d' mc' ms' : Nat} {Q' : Option Value → kx_Mem → Prop} {Z' : kx_Mem → Prop}
/-- behind a call -/
theorem kt_after {p : Program} {e : Env} {s : State} {m : MethodId} {args : Array Value} {below : List Frame} {meth : Method} {c : Code} {H : Heap} {locs : List Loc} {ls : Array Slot} {a9 : Array Value}
    (hr : va_Run p f.1 e (kx_room f.2.2.2.1 f.2.2.2.2.1 f.2.2.2.2.2.1) s m args below meth c H locs cells slots mc' ms' (F0 m pc ls (st0.map (kx_cv f.2.1))) (st.map (kx_cv f.2.1)) (kx_Qc f.2.1 Q' a9) (fun q => f.2.1.2.2.1 ≤ q))
    (C : kt_Cx f.2.1 f.2.2.1 f.2.2.2.2.2.2.2.2 p s m args meth c) (hL : ∀ q ∈ locs, f.2.1.2.2.1 ≤ q.base) (hl : kx_has f.2.1 ls f.2.2.1.2.2.1 lv) (kk : ∀ v h', Q' v h' → kt_X f (cells + mc') (slots + ms') (pc + 3) lv (v.toList ++ st) h') :
    W p f.1 e (kx_room f.2.2.2.1 f.2.2.2.2.1 f.2.2.2.2.2.1) s m args below meth c H locs cells slots (kt_MQ below (kt_Qc f.2.1 f.2.2.2.2.2.2.1 f.2.2.2.2.2.2.2.1) args s f.2.2.2.2.1 f.2.2.2.2.2.1 (fun q => f.2.1.2.2.1 ≤ q)) (F0 m pc ls (st0.map (kx_cv f.2.1))) := by
  intro T hT X
  obtain ⟨v, st₀, t, T', L, h0, X', hLL, e1, e2, ⟨v', h', hv, hRel, hQ⟩, stp⟩ := hr T hT X
  cases hv
  obtain ⟨t2, a1, b1⟩ := kk v' h' hQ p e s m args below meth c C T'.heap (locs ++ L) ls (by rw [e1]; exact hRel) (fun q hq => by
    rcases List.mem_append.mp hq with hq | hq
    · exact hL q hq
    · exact hLL q hq) hl T' rfl X'
  rw [← kx_stk] at a1
  exact ⟨t2, stp t2 a1, b1⟩
theorem kt_invV {a ci : Nat} {r : vw_C} {as : List Value} (hd : decode f.2.2.1.2.1 pc = .ok (.invokevirtual idx, 3)) (hl0 : kx_LV f.2.2.1.1.cls idx ν) (hw : kx_MW ν n) (hk : (h.2.2.2.1 a).1 = ci + 1) (hc : kx_cl[ci]? = some r) (hcn : r.1 = ν.1.cls) (hst : st0 = as.reverse ++ .ref a :: st) (hn : as.length = n) (hcat : (st.map fun v => v.category).sum ≤ 8)
    (hM : kx_Sp f.1 f.2.1 ν (.ref a :: as) h d' mc' ms' Q') (hdd : d' + 1 ≤ f.2.2.2.1) (hf : cells + mc' ≤ f.2.2.2.2.1 ∧ slots + ms' ≤ f.2.2.2.2.2.1) (kk : ∀ v h', Q' v h' → kt_X f (cells + mc') (slots + ms') (pc + 3) lv (v.toList ++ st) h') : kt_X f cells slots pc lv st0 h := by
  intro p e s m args below meth c C H locs ls hR hL hl
  obtain ⟨hx, hb, -, hml, hown, hts, -, hnm, hK⟩ := id C.1
  have hrecv := kx_recv hK hR hk hc
  rw [hcn] at hrecv
  have hpre := kx_preS (as := .ref a :: as) hK hR
  have hpv : PreV s H ν.1.cls (kx_ad f.2.1 a) (kx_Pc f.2.1 (.ref a :: as) h) (as.map (kx_cv f.2.1)) := ⟨hpre.1, hrecv, hpre.2⟩
  have hlen : (as.map (kx_cv f.2.1)).length = n := by rw [List.length_map]; exact hn
  have hstk : st0.map (kx_cv f.2.1) = (as.map (kx_cv f.2.1)).reverse ++ .ref (kx_ad f.2.1 a) :: st.map (kx_cv f.2.1) := by rw [hst]; simp [kx_cv]
  have hcat' : ((st.map (kx_cv f.2.1)).map fun v => v.category).sum ≤ 8 := by rw [List.map_map]; simpa [Function.comp_def, kx_cv_cat] using hcat
  have h13 := hw.2.2.2.2.1
  have hbd : (kx_room d' mc' ms').frames + 1 ≤ (kx_room f.2.2.2.1 f.2.2.2.2.1 f.2.2.2.2.2.1).frames ∧ 8 + (ν.2.2.1 + 11) + (kx_room d' mc' ms').locals ≤ (kx_room f.2.2.2.1 f.2.2.2.2.1 f.2.2.2.2.2.1).locals := ⟨hdd, by show 8 + (ν.2.2.1 + 11) + 32 * d' ≤ 32 * f.2.2.2.1; omega⟩
  obtain ⟨hlk, hin, hse⟩ := hl0
  rcases hlk with hlk | ⟨host, hlk⟩
  · exact kt_after (va_runV (bytes := ν.2.1) (maxL := ν.2.2.1) (ret := ν.2.2.2) (Ts := kx_good) ⟨hx, hb, hml, hown, hts⟩ hM ⟨⟨rfl, rfl, hbd.1, hbd.2, kx_good_in hw hts, List.mem_cons_self, hts _ hw.1, hts _ hw.2.1, hw.2.2.1, kx_desc hw, hts _ hlk⟩, hts _ hin, hts _ hse⟩ hpv rfl hlen hl.1 hstk (lv_room hcat') hd hf) C hL hl kk
  · exact kt_after (va_runVN (bytes := ν.2.1) (maxL := ν.2.2.1) (ret := ν.2.2.2) (Ts := kx_good) ⟨hx, hb, hml, hown, hts⟩ hM ⟨⟨⟨rfl, rfl, hbd.1, hbd.2, kx_good_in hw hts, List.mem_cons_self⟩, hts _ hw.1, hts _ hw.2.1, hw.2.2.1, kx_desc hw, va_Nw.use rfl (hK.2.2.1 _ hlk)⟩, hts _ hin, hts _ hse⟩ hpv rfl hlen hl.1 hstk (lv_room hcat') hd hf) C hL hl kk
theorem kt_invS {as : List Value} (hd : decode f.2.2.1.2.1 pc = .ok (.invokestatic idx, 3)) (hl0 : kx_LS f.2.2.1.1.cls idx ν) (hw : kx_MW ν n) (hst : st0 = as.reverse ++ st) (hn : as.length = n) (hcat : (st.map fun v => v.category).sum ≤ 8)
    (hM : kx_Sp f.1 f.2.1 ν as h d' mc' ms' Q') (hdd : d' + 1 ≤ f.2.2.2.1) (hf : cells + mc' ≤ f.2.2.2.2.1 ∧ slots + ms' ≤ f.2.2.2.2.2.1) (kk : ∀ v h', Q' v h' → kt_X f (cells + mc') (slots + ms') (pc + 3) lv (v.toList ++ st) h') : kt_X f cells slots pc lv st0 h := by
  intro p e s m args below meth c C H locs ls hR hL hl
  obtain ⟨hx, hb, -, hml, hown, hts, -, hnm, hK⟩ := id C.1
  have hpre := kx_preS (as := as) hK hR
  have hlen : (as.map (kx_cv f.2.1)).length = n := by rw [List.length_map]; exact hn
  have hstk : st0.map (kx_cv f.2.1) = (as.map (kx_cv f.2.1)).reverse ++ st.map (kx_cv f.2.1) := by rw [hst]; simp
  have hcat' : ((st.map (kx_cv f.2.1)).map fun v => v.category).sum ≤ 8 := by rw [List.map_map]; simpa [Function.comp_def, kx_cv_cat] using hcat
  have h13 := hw.2.2.2.2.1
  have hbd : (kx_room d' mc' ms').frames + 1 ≤ (kx_room f.2.2.2.1 f.2.2.2.2.1 f.2.2.2.2.2.1).frames ∧ 8 + (ν.2.2.1 + 11) + (kx_room d' mc' ms').locals ≤ (kx_room f.2.2.2.1 f.2.2.2.2.1 f.2.2.2.2.2.1).locals := ⟨hdd, by show 8 + (ν.2.2.1 + 11) + 32 * d' ≤ 32 * f.2.2.2.1; omega⟩
  obtain ⟨hlk, hin⟩ := hl0
  rcases hlk with hlk | ⟨host, hlk⟩
  · exact kt_after (va_runS (bytes := ν.2.1) (maxL := ν.2.2.1) (ret := ν.2.2.2) (Ts := kx_good) ⟨hx, hb, hml, hown, hts⟩ hM ⟨⟨rfl, rfl, hbd.1, hbd.2, kx_good_in hw hts, List.mem_cons_self, hts _ hw.1, hts _ hw.2.1, hw.2.2.1, kx_desc hw, hts _ hlk⟩, hts _ hin⟩ hpre rfl hlen hl.1 hstk (lv_room hcat') hd hf) C hL hl kk
  · exact kt_after (va_runSN (bytes := ν.2.1) (maxL := ν.2.2.1) (ret := ν.2.2.2) (Ts := kx_good) ⟨hx, hb, hml, hown, hts⟩ hM ⟨⟨⟨rfl, rfl, hbd.1, hbd.2, kx_good_in hw hts, List.mem_cons_self⟩, hts _ hw.1, hts _ hw.2.1, hw.2.2.1, kx_desc hw, va_Nw.use rfl (hK.2.2.1 _ hlk)⟩, hts _ hin, trivial⟩ hpre rfl hlen hl.1 hstk (lv_room hcat') hd hf) C hL hl kk
/-- a call that may throw: what it threw leaves this method too, or comes to its handler -/
theorem kt_invT {a ci : Nat} {r : vw_C} {as : List Value} (hd : decode f.2.2.1.2.1 pc = .ok (.invokevirtual idx, 3)) (hlk : Cond.methodLink f.2.2.1.1.cls idx ν.1 ∈ kx_good) (hin : Cond.instanceMethod ν.1 ∈ kx_good) (hse : Cond.selects ν.1.cls ν.1 ν.1 ∈ kx_good) (hw : kx_MW ν n) (hk : (h.2.2.2.1 a).1 = ci + 1) (hc : kx_cl[ci]? = some r) (hcn : r.1 = ν.1.cls) (hst : st0 = as.reverse ++ .ref a :: st) (hn : as.length = n) (hcat : (st.map fun v => v.category).sum ≤ 8)
    (hM : kt_Sp f.1 f.2.1 ν (.ref a :: as) h d' mc' ms' Q' Z') (hdd : d' + 1 ≤ f.2.2.2.1) (hf : cells + mc' ≤ f.2.2.2.2.1 ∧ slots + ms' ≤ f.2.2.2.2.2.1) (kk : ∀ v h', Q' v h' → kt_X f (cells + mc') (slots + ms') (pc + 3) lv (v.toList ++ st) h')
    (kz : ∀ h', Z' h' → (f.2.2.2.2.2.2.2.2 = [] ∧ f.2.2.2.2.2.2.2.1 h') ∨ (∃ a0 b0 hp ct, f.2.2.2.2.2.2.2.2 = [(a0, b0, hp, ct)] ∧ a0 ≤ pc ∧ pc < b0 ∧ ct ≠ 0 ∧ Cond.classLink f.2.2.1.1.cls ct "TreatyClaimsModel$Stop" ∈ kx_good ∧ (h'.2.2.2.1 87).1 = 14 ∧ kt_X f (cells + mc') (slots + ms') hp lv [.ref 87] h')) : kt_X f cells slots pc lv st0 h := by
  intro p e s m args below meth c C H locs ls hR hL hl T hT X
  obtain ⟨hx, hb, -, hml, hown, hts, hlocks, hnm, hK⟩ := id C.1
  have hrecv := kx_recv hK hR hk hc
  rw [hcn] at hrecv
  have hpre := kx_preS (as := .ref a :: as) hK hR
  have hlen : (as.map (kx_cv f.2.1)).length = n := by rw [List.length_map]; exact hn
  have hstk : st0.map (kx_cv f.2.1) = (as.map (kx_cv f.2.1)).reverse ++ .ref (kx_ad f.2.1 a) :: st.map (kx_cv f.2.1) := by rw [hst]; simp [kx_cv]
  have hcat' : ((st.map (kx_cv f.2.1)).map fun v => v.category).sum ≤ 8 := by rw [List.map_map]; simpa [Function.comp_def, kx_cv_cat] using hcat
  have h13 := hw.2.2.2.2.1
  have hB := kt_back (R := kx_room f.2.2.2.1 f.2.2.2.2.1 f.2.2.2.2.2.1) (p := p) (e := e) (below := below) (s := s) (sargs := args) (len := 3) (W := 8) (bytes := ν.2.1) (maxL := ν.2.2.1) (ret := ν.2.2.2) hM hpre.1 rfl rfl hdd (show 8 + (ν.2.2.1 + 11) + 32 * d' ≤ 32 * f.2.2.2.1 by omega) (kx_good_in hw hts) List.mem_cons_self (fun a' U hW => word_at hW (Or.inl (by first | rfl | simp [Cond.onTables, Cond.keeps, Cond.steady])) (hts _ hw.2.1))
  obtain ⟨cellB, hcB, hoB, hclB⟩ := hrecv
  obtain ⟨o, vm₁, ⟨U', l2, c2, s2⟩, hW₁, X', ⟨g', mk, t, L, e1, e2, hq, h1, hLL, h2, h3⟩, stp⟩ := kt_callV X hx (C := ν.1.cls) (bytes := ν.2.1) (maxL := ν.2.2.1) (ret := ν.2.2.2) hown (hts _ hlk) (hts _ hin) (hts _ hse) (hts _ hw.1) hw.2.2.1 hB (by rw [hT]; exact hcB) hoB hclB (g := F0 m pc ls (st0.map (kx_cv f.2.1))) rfl (hl.1.trans hml.symm) (argsL := as.map (kx_cv f.2.1)) (rest := st.map (kx_cv f.2.1)) (fun sig z => hlen.trans (kx_desc hw sig z)) hstk (lv_room hcat') (by rw [hb]; exact hd)
    (fun vm₁ hW₁ => ⟨hf.1, hf.2, hpre.2 (T.setVm vm₁) hT hW₁⟩)
  dsimp only [Pt.U, Pt.locs, Pt.cells, Pt.slots] at X' e1 e2 h1 h2 h3 stp
  subst h1; subst h2; subst h3
  have hLL' : ∀ q ∈ locs ++ L, f.2.1.2.2.1 ≤ q.base := fun q hq => by
    rcases List.mem_append.mp hq with hq | hq
    · exact hL q hq
    · exact hLL q hq
  rcases hq with ⟨v', h', rfl, hRel, hQ⟩ | ⟨h', rfl, hRel, hZ⟩
  · obtain ⟨t2, a1, b1⟩ := kk v' h' hQ p e s m args below meth c C U'.heap (locs ++ L) ls (by rw [e1]; exact hRel) hLL' hl U' rfl X'
    rw [← kx_stk] at a1
    exact ⟨t2, stp t2 a1, b1⟩
  · rcases kz h' hZ with ⟨hhh, hZ'⟩ | ⟨a0, b0, hp, ct, hhh, z1, z2, z3, hcl, hk87, kh⟩
    · have hemp : c.exceptionTable.toList = [] := by
        have := C.2
        rw [hhh] at this
        exact List.map_eq_nil_iff.mp this
      obtain ⟨w1, w2, w3, w4, w5⟩ := (stand_widen X' hf.1 hf.2).leaveThrown (kx_ad f.2.1 87) (g := { F0 m pc ls (st0.map (kx_cv f.2.1)) with stack := st.map (kx_cv f.2.1) }) rfl rfl rfl (by rw [hemp]; exact fun x hx => absurd hx List.not_mem_nil) hlocks
      exact ⟨_, stp _ w1, _, w2, w3, Or.inr ⟨h', rfl, by rw [← e1] at hRel; exact hRel, hZ'⟩, locs ++ L, ⟨w4, w5⟩, hLL'⟩
    · obtain ⟨x, hxe, hx1⟩ : ∃ x, c.exceptionTable.toList = [x] ∧ (x.startPc, x.endPc, x.handlerPc, x.catchType) = (a0, b0, hp, ct) := by
        have := C.2
        rw [hhh] at this
        obtain ⟨x, xs, q1, q2, q3⟩ := List.map_eq_cons_iff.mp this
        rw [List.map_eq_nil_iff.mp q3] at q1
        exact ⟨x, q1, q2⟩
      have hpl : e.platform.magicAccessors = ({} : Platform).magicAccessors := by rw [X.admits.platform]
      have x1 : x.startPc = a0 := congrArg (·.1) hx1
      have x2 : x.endPc = b0 := congrArg (·.2.1) hx1
      have x3 : x.handlerPc = hp := congrArg (·.2.2.1) hx1
      have x4 : x.catchType = ct := congrArg (·.2.2.2) hx1
      obtain ⟨cS, hfS, hcL⟩ := Cond.classLink_spec hown (hts _ hcl) e.platform hpl
      obtain ⟨hg₁, hwarm₁, hready₁⟩ := State.classEntry (e := e) X'.warmed hcL
      obtain ⟨cellS, hS1, hS2, hS3⟩ := kx_recv (a := 87) (ci := 13) hK hRel hk87 (show kx_cl[13]? = some _ from rfl)
      have hS3' : s.vm.findClass "TreatyClaimsModel$Stop" = some cellS.cls := hS3
      have hcs : cellS.cls = cS := Option.some.inj (hS3'.symm.trans hfS)
      obtain ⟨kS, hkS⟩ := Vm.classAt_of_findClass hfS
      obtain ⟨k₁, hk₁, -⟩ := hwarm₁.alike.2.2 _ _ hkS
      have X₂ := X'.noted hwarm₁
      obtain ⟨t2, a1, b1⟩ := kh p e s m args below meth c C U'.heap (locs ++ L) ls (by rw [e1]; exact hRel) hLL' hl (U'.setVm (U'.vm.noted m.cls ct (.cls cS))) rfl X₂
      have hhere : At U' ({ F0 m pc ls (st0.map (kx_cv f.2.1)) with stack := st.map (kx_cv f.2.1) } : JFrame).method c below := X'.here
      refine ⟨t2, stp _ (kt_caught (c := c) (vm' := U'.vm.noted m.cls ct (.cls cS)) hhere (pc := hp) ?_ a1), b1⟩
      intro Q E d9 acts
      have hvm := Stand.throwing_vm U' ({ F0 m pc ls (st0.map (kx_cv f.2.1)) with stack := st.map (kx_cv f.2.1) } : JFrame) (kx_ad f.2.1 87)
      have hhp := Stand.throwing_heap U' ({ F0 m pc ls (st0.map (kx_cv f.2.1)) with stack := st.map (kx_cv f.2.1) } : JFrame) (kx_ad f.2.1 87)
      rw [W.findHandler_eq (meth := meth) (code := c) (by rw [hvm]; exact X'.method') X'.code, hxe]
      subst hcs
      have hsz : (U'.vm.noted m.cls ct (.cls cellS.cls)).classes.size ≤ U'.vm.classes.size := by no_record
      rw [kt_goCold (x := x) (t := []) (c := cellS.cls) (cell := cellS) (vm' := U'.vm.noted m.cls ct (.cls cellS.cls)) (by simp [covers, x1, x2]; exact ⟨z1, z2⟩) (by rw [x4]; exact z3) (by rw [hvm, x4]; exact hg₁) (by rw [hvm]; exact hsz) (by rw [hhp, e1]; exact hS1) (VmData.ne_statics_of hS2) ⟨_, hk₁⟩ ⟨_, hk₁⟩ (by unfold Vm.assignable; rw [Vm.assignableAux]; simp), x3]
theorem kt_athrow (hd : decode f.2.2.1.2.1 pc = .ok (.athrow, 1)) (hhh : f.2.2.2.2.2.2.2.2 = []) (hc : cells ≤ f.2.2.2.2.1) (hs : slots ≤ f.2.2.2.2.2.1) (hZ : f.2.2.2.2.2.2.2.1 h) : kt_X f cells slots pc lv (.ref 87 :: st) h := by
  intro p e s m args below meth c C H locs ls hR hL hl T hT X
  obtain ⟨hx, hb, -, hml, hown, hts, hlocks, hnm, hK⟩ := id C.1
  have hemp : c.exceptionTable.toList = [] := by
    have := C.2
    rw [hhh] at this
    exact List.map_eq_nil_iff.mp this
  obtain ⟨w1, w2, w3, w4, w5⟩ := (stand_widen X hc hs).athrowLeaves hx (g := F0 m pc ls ((.ref 87 :: st).map (kx_cv f.2.1))) rfl rfl rfl (by rw [hemp]; exact fun x hx => absurd hx List.not_mem_nil) (a := kx_ad f.2.1 87) (rest := st.map (kx_cv f.2.1)) rfl (by rw [hb]; exact hd) hlocks
  exact ⟨_, w1, _, w2, w3, Or.inr ⟨h, rfl, by show kx_Rel _ h T.heap; rw [hT]; exact hR, hZ⟩, locs, ⟨w4, w5⟩, hL⟩
end KTR
