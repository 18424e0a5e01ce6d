/-! calls -/
def kx_LV (own : String) (idx : Nat) (ν : kx_M) : Prop := kx_LK own idx ν ∧ Cond.instanceMethod ν.1 ∈ kx_good ∧ Cond.selects ν.1.cls ν.1 ν.1 ∈ kx_good
def kx_LS (own : String) (idx : Nat) (ν : kx_M) : Prop := kx_LK own idx ν ∧ Cond.static ν.1 ∈ kx_good
def kx_LI (own : String) (idx : Nat) (ν : kx_M) : Prop := kx_LK own idx ν ∧ ν.1.name = "<init>" ∧ Cond.instanceMethod ν.1 ∈ kx_good
theorem kx_good_in {ν : kx_M} {n : Nat} (hw : kx_MW ν n) {args : Array Value} {s : State} (hts : ∀ w ∈ kx_good, w.before args s = true) : ∀ w ∈ kx_ws ν, ∀ (a' : Array Value) (U : State), s.WarmedH U.vm → w.before a' U = true := by
  refine pay_in (big := kx_good) hts (fun w h => ?_)
  have h1 : w ∈ kx_good := by
    rcases List.mem_cons.mp h with rfl | h
    · exact hw.1
    · exact h
  exact ⟨h1, good_of_word (List.mem_filter.mp h1).2⟩
theorem kx_desc {ν : kx_M} {n : Nat} (hw : kx_MW ν n) : ∀ sig, parseMethodDescriptor ν.1.desc = some sig → n = sig.parameters.length := by
  intro sig h
  have h2 := hw.2.2.2.1
  rw [h] at h2
  exact (Option.some.inj h2).symm
theorem kx_preS {g : kx_G} {s : State} {H : Heap} {as : List Value} {h : kx_Mem} (hK : kx_K g s) (hR : kx_Rel g h H) : PreS s H (kx_Pc g as h) (as.map (kx_cv g)) :=
  ⟨kx_blind g as h, fun U hU hW => ⟨rfl, by rw [hU]; exact hR, hK.warm hW⟩⟩
theorem kx_stk (g : kx_G) (v : Option Value) (st : List Value) : (v.map (kx_cv g)).toList ++ st.map (kx_cv g) = (v.toList ++ st).map (kx_cv g) := by cases v <;> rfl
section KXC
variable {f : kx_F} {cells slots pc : Nat} {lv : List (Option Value)} {st st0 : List Value} {h : kx_Mem} {ν : kx_M} {n idx d' mc' ms' : Nat} {Q' : Option Value → kx_Mem → Prop}
/-- behind a call -/
theorem kx_after {p : Program} {e : Env} {s : State} {m : MethodId} {args : Array Value} {below : List Frame} {meth : Method} {c : Code} {H : Heap} {locs : List Loc} {ls : Array Slot} {a9 : Array Value}
    (hr : va_Run p f.1 e (kx_room f.2.2.2.1 f.2.2.2.2.1 f.2.2.2.2.2.1) s m args below meth c H locs cells slots mc' ms' (F0 m pc ls (st0.map (kx_cv f.2.1))) (st.map (kx_cv f.2.1)) (kx_Qc f.2.1 Q' a9) (fun q => f.2.1.2.2.1 ≤ q))
    (C : kx_Cx f.2.1 f.2.2.1 p s m args meth c) (hL : ∀ q ∈ locs, f.2.1.2.2.1 ≤ q.base) (hl : kx_has f.2.1 ls f.2.2.1.2.2.1 lv) (kk : ∀ v h', Q' v h' → kx_X f (cells + mc') (slots + ms') (pc + 3) lv (v.toList ++ st) h') :
    W p f.1 e (kx_room f.2.2.2.1 f.2.2.2.2.1 f.2.2.2.2.2.1) s m args below meth c H locs cells slots (MQ below (kx_Qc f.2.1 f.2.2.2.2.2.2) args s f.2.2.2.2.1 f.2.2.2.2.2.1 (fun q => f.2.1.2.2.1 ≤ q)) (F0 m pc ls (st0.map (kx_cv f.2.1))) := by
  intro T hT X
  obtain ⟨v, st₀, t, T', L, h0, X', hLL, e1, e2, ⟨v', h', hv, hRel, hQ⟩, stp⟩ := hr T hT X
  cases hv
  obtain ⟨t2, a1, b1⟩ := kk v' h' hQ p e s m args below meth c C T'.heap (locs ++ L) ls (by rw [e1]; exact hRel) (fun q hq => by
    rcases List.mem_append.mp hq with hq | hq
    · exact hL q hq
    · exact hLL q hq) hl T' rfl X'
  rw [← kx_stk] at a1
  exact ⟨t2, stp t2 a1, b1⟩
theorem kx_invV {a ci : Nat} {r : vw_C} {as : List Value} (hd : decode f.2.2.1.2.1 pc = .ok (.invokevirtual idx, 3)) (hl0 : kx_LV f.2.2.1.1.cls idx ν) (hw : kx_MW ν n) (hk : (h.2.2.2.1 a).1 = ci + 1) (hc : kx_cl[ci]? = some r) (hcn : r.1 = ν.1.cls) (hst : st0 = as.reverse ++ .ref a :: st) (hn : as.length = n) (hcat : (st.map fun v => v.category).sum ≤ 8)
    (hM : kx_Sp f.1 f.2.1 ν (.ref a :: as) h d' mc' ms' Q') (hdd : d' + 1 ≤ f.2.2.2.1) (hf : cells + mc' ≤ f.2.2.2.2.1 ∧ slots + ms' ≤ f.2.2.2.2.2.1) (kk : ∀ v h', Q' v h' → kx_X f (cells + mc') (slots + ms') (pc + 3) lv (v.toList ++ st) h') : kx_X f cells slots pc lv st0 h := by
  intro p e s m args below meth c C H locs ls hR hL hl
  obtain ⟨hx, hb, -, hml, hown, hts, -, hnm, hK⟩ := id C
  have hrecv := kx_recv hK hR hk hc
  rw [hcn] at hrecv
  have hpre := kx_preS (as := .ref a :: as) hK hR
  have hpv : PreV s H ν.1.cls (kx_ad f.2.1 a) (kx_Pc f.2.1 (.ref a :: as) h) (as.map (kx_cv f.2.1)) := ⟨hpre.1, hrecv, hpre.2⟩
  have hlen : (as.map (kx_cv f.2.1)).length = n := by rw [List.length_map]; exact hn
  have hstk : st0.map (kx_cv f.2.1) = (as.map (kx_cv f.2.1)).reverse ++ .ref (kx_ad f.2.1 a) :: st.map (kx_cv f.2.1) := by rw [hst]; simp [kx_cv]
  have hcat' : ((st.map (kx_cv f.2.1)).map fun v => v.category).sum ≤ 8 := by rw [List.map_map]; simpa [Function.comp_def, kx_cv_cat] using hcat
  have h13 := hw.2.2.2.2.1
  have hbd : (kx_room d' mc' ms').frames + 1 ≤ (kx_room f.2.2.2.1 f.2.2.2.2.1 f.2.2.2.2.2.1).frames ∧ 8 + (ν.2.2.1 + 11) + (kx_room d' mc' ms').locals ≤ (kx_room f.2.2.2.1 f.2.2.2.2.1 f.2.2.2.2.2.1).locals := ⟨hdd, by show 8 + (ν.2.2.1 + 11) + 32 * d' ≤ 32 * f.2.2.2.1; omega⟩
  obtain ⟨hlk, hin, hse⟩ := hl0
  rcases hlk with hlk | ⟨host, hlk⟩
  · exact kx_after (va_runV (bytes := ν.2.1) (maxL := ν.2.2.1) (ret := ν.2.2.2) (Ts := kx_good) ⟨hx, hb, hml, hown, hts⟩ hM ⟨⟨rfl, rfl, hbd.1, hbd.2, kx_good_in hw hts, List.mem_cons_self, hts _ hw.1, hts _ hw.2.1, hw.2.2.1, kx_desc hw, hts _ hlk⟩, hts _ hin, hts _ hse⟩ hpv rfl hlen hl.1 hstk (lv_room hcat') hd hf) C hL hl kk
  · exact kx_after (va_runVN (bytes := ν.2.1) (maxL := ν.2.2.1) (ret := ν.2.2.2) (Ts := kx_good) ⟨hx, hb, hml, hown, hts⟩ hM ⟨⟨⟨rfl, rfl, hbd.1, hbd.2, kx_good_in hw hts, List.mem_cons_self⟩, hts _ hw.1, hts _ hw.2.1, hw.2.2.1, kx_desc hw, va_Nw.use rfl (hK.2.2.1 _ hlk)⟩, hts _ hin, hts _ hse⟩ hpv rfl hlen hl.1 hstk (lv_room hcat') hd hf) C hL hl kk
theorem kx_invS {as : List Value} (hd : decode f.2.2.1.2.1 pc = .ok (.invokestatic idx, 3)) (hl0 : kx_LS f.2.2.1.1.cls idx ν) (hw : kx_MW ν n) (hst : st0 = as.reverse ++ st) (hn : as.length = n) (hcat : (st.map fun v => v.category).sum ≤ 8)
    (hM : kx_Sp f.1 f.2.1 ν as h d' mc' ms' Q') (hdd : d' + 1 ≤ f.2.2.2.1) (hf : cells + mc' ≤ f.2.2.2.2.1 ∧ slots + ms' ≤ f.2.2.2.2.2.1) (kk : ∀ v h', Q' v h' → kx_X f (cells + mc') (slots + ms') (pc + 3) lv (v.toList ++ st) h') : kx_X f cells slots pc lv st0 h := by
  intro p e s m args below meth c C H locs ls hR hL hl
  obtain ⟨hx, hb, -, hml, hown, hts, -, hnm, hK⟩ := id C
  have hpre := kx_preS (as := as) hK hR
  have hlen : (as.map (kx_cv f.2.1)).length = n := by rw [List.length_map]; exact hn
  have hstk : st0.map (kx_cv f.2.1) = (as.map (kx_cv f.2.1)).reverse ++ st.map (kx_cv f.2.1) := by rw [hst]; simp
  have hcat' : ((st.map (kx_cv f.2.1)).map fun v => v.category).sum ≤ 8 := by rw [List.map_map]; simpa [Function.comp_def, kx_cv_cat] using hcat
  have h13 := hw.2.2.2.2.1
  have hbd : (kx_room d' mc' ms').frames + 1 ≤ (kx_room f.2.2.2.1 f.2.2.2.2.1 f.2.2.2.2.2.1).frames ∧ 8 + (ν.2.2.1 + 11) + (kx_room d' mc' ms').locals ≤ (kx_room f.2.2.2.1 f.2.2.2.2.1 f.2.2.2.2.2.1).locals := ⟨hdd, by show 8 + (ν.2.2.1 + 11) + 32 * d' ≤ 32 * f.2.2.2.1; omega⟩
  obtain ⟨hlk, hin⟩ := hl0
  rcases hlk with hlk | ⟨host, hlk⟩
  · exact kx_after (va_runS (bytes := ν.2.1) (maxL := ν.2.2.1) (ret := ν.2.2.2) (Ts := kx_good) ⟨hx, hb, hml, hown, hts⟩ hM ⟨⟨rfl, rfl, hbd.1, hbd.2, kx_good_in hw hts, List.mem_cons_self, hts _ hw.1, hts _ hw.2.1, hw.2.2.1, kx_desc hw, hts _ hlk⟩, hts _ hin⟩ hpre rfl hlen hl.1 hstk (lv_room hcat') hd hf) C hL hl kk
  · exact kx_after (va_runSN (bytes := ν.2.1) (maxL := ν.2.2.1) (ret := ν.2.2.2) (Ts := kx_good) ⟨hx, hb, hml, hown, hts⟩ hM ⟨⟨⟨rfl, rfl, hbd.1, hbd.2, kx_good_in hw hts, List.mem_cons_self⟩, hts _ hw.1, hts _ hw.2.1, hw.2.2.1, kx_desc hw, va_Nw.use rfl (hK.2.2.1 _ hlk)⟩, hts _ hin, trivial⟩ hpre rfl hlen hl.1 hstk (lv_room hcat') hd hf) C hL hl kk
theorem kx_invI {a : Nat} {as : List Value} (hret : ν.2.2.2 = none) (hd : decode f.2.2.1.2.1 pc = .ok (.invokespecial idx, 3)) (hl0 : kx_LI f.2.2.1.1.cls idx ν) (hw : kx_MW ν n) (hst : st0 = as.reverse ++ .ref a :: st) (hn : as.length = n) (hcat : (st.map fun v => v.category).sum ≤ 8)
    (hM : kx_Sp f.1 f.2.1 ν (.ref a :: as) h d' mc' ms' Q') (hdd : d' + 1 ≤ f.2.2.2.1) (hf : cells + mc' ≤ f.2.2.2.2.1 ∧ slots + ms' ≤ f.2.2.2.2.2.1) (kk : ∀ v h', Q' v h' → kx_X f (cells + mc') (slots + ms') (pc + 3) lv (v.toList ++ st) h') : kx_X f cells slots pc lv st0 h := by
  intro p e s m args below meth c C H locs ls hR hL hl
  obtain ⟨hx, hb, -, hml, hown, hts, -, hnm, hK⟩ := id C
  have hpre := kx_preS (as := .ref a :: as) hK hR
  have hlen : (as.map (kx_cv f.2.1)).length = n := by rw [List.length_map]; exact hn
  have hstk : st0.map (kx_cv f.2.1) = (as.map (kx_cv f.2.1)).reverse ++ .ref (kx_ad f.2.1 a) :: st.map (kx_cv f.2.1) := by rw [hst]; simp [kx_cv]
  have hcat' : ((st.map (kx_cv f.2.1)).map fun v => v.category).sum ≤ 8 := by rw [List.map_map]; simpa [Function.comp_def, kx_cv_cat] using hcat
  have h13 := hw.2.2.2.2.1
  have hbd : (kx_room d' mc' ms').frames + 1 ≤ (kx_room f.2.2.2.1 f.2.2.2.2.1 f.2.2.2.2.2.1).frames ∧ 8 + (ν.2.2.1 + 11) + (kx_room d' mc' ms').locals ≤ (kx_room f.2.2.2.1 f.2.2.2.2.1 f.2.2.2.2.2.1).locals := ⟨hdd, by show 8 + (ν.2.2.1 + 11) + 32 * d' ≤ 32 * f.2.2.2.1; omega⟩
  have hcode := hts _ hw.1
  rw [hret] at hcode
  have hin1 : Cond.code ν.1 ν.2.1 ν.2.2.1 none ∈ kx_ws ν := by
    have : Cond.code ν.1 ν.2.1 ν.2.2.1 ν.2.2.2 ∈ kx_ws ν := List.mem_cons_self
    rwa [hret] at this
  obtain ⟨hlk, hnin, hin⟩ := hl0
  rcases hlk with hlk | ⟨host, hlk⟩
  · exact kx_after (va_runI (bytes := ν.2.1) (maxL := ν.2.2.1) (Ts := kx_good) ⟨hx, hb, hml, hown, hts⟩ hM ⟨⟨rfl, rfl, hbd.1, hbd.2, kx_good_in hw hts, hin1, hcode, hts _ hw.2.1, hw.2.2.1, kx_desc hw, hts _ hlk⟩, hnin, hts _ hin⟩ hpre rfl hlen hl.1 hstk (lv_room hcat') hd hf) C hL hl kk
  · exact kx_after (va_runIN (bytes := ν.2.1) (maxL := ν.2.2.1) (Ts := kx_good) ⟨hx, hb, hml, hown, hts⟩ hM ⟨⟨⟨rfl, rfl, hbd.1, hbd.2, kx_good_in hw hts, hin1⟩, hcode, hts _ hw.2.1, hw.2.2.1, kx_desc hw, va_Nw.use rfl (hK.2.2.1 _ hlk)⟩, hnin, hts _ hin⟩ hpre rfl hlen hl.1 hstk (lv_room hcat') hd hf) C hL hl kk
theorem kx_objInit {a : Nat} (hw1 : Cond.methodLink f.2.2.1.1.cls idx objectInit ∈ kx_good) (hw2 : Cond.instanceMethod objectInit ∈ kx_good) (hw3 : Cond.code objectInit ⟨#[0xb1]⟩ 1 none ∈ kx_good) (hd : decode f.2.2.1.2.1 pc = .ok (.invokespecial idx, 3)) (hdd : 1 ≤ f.2.2.2.1) (hcat : (st.map fun v => v.category).sum ≤ 8) (k : kx_X f cells slots (pc + 3) lv st h) : kx_X f cells slots pc lv (.ref a :: st) h := by
  intro p e s m args below meth c C H locs ls hR hL hl
  obtain ⟨hx, hb, -, hml, hown, hts, -, hnm, hK⟩ := id C
  have hcat' : ((st.map (kx_cv f.2.1)).map fun v => v.category).sum ≤ 8 := by rw [List.map_map]; simpa [Function.comp_def, kx_cv_cat] using hcat
  refine W.objInit hx hb hown (hts _ hw1) (hts _ hw2) (hts _ hw3) rfl (by rw [hml]; exact hl.1) rfl hd hdd ?_ (k p e s m args below meth c C H locs ls hR hL hl)
  have := lv_room (m := m) (pc := pc) (ls := ls) (rest := (Value.ref a :: st).map (kx_cv f.2.1)) hcat'
  show _ ≤ 32 * f.2.2.2.1
  omega
end KXC
