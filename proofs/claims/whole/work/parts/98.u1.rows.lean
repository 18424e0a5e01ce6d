/-! the law: rows in one fixed context -/
def m_La_law : kx_M := (x, code, 4, ret)
def kl_X (p : Program) (l : Launch) (e : Env) (s : State) (m : MethodId) (args : Array Value) (below : List Frame) (meth : Method) (c : Code) (g : kx_G) (Q : State → Prop) (cells slots pc : Nat) (lv : List (Option Value)) (st : List Value) (h : kx_Mem) : Prop := ∀ (H : Heap) (locs : List Loc) (ls : Array Slot), kx_Rel g h H → (∀ q ∈ locs, g.2.2.1 ≤ q.base) → kx_has g ls 4 lv → W p l e room_1 s m args below meth c H locs cells slots Q (F0 m pc ls (st.map (kx_cv g)))
section KLR
variable {p : Program} {l : Launch} {e : Env} {s : State} {m : MethodId} {args : Array Value} {below : List Frame} {meth : Method} {c : Code} {g : kx_G} {Q : State → Prop} {cells slots pc : Nat} {lv lv' : List (Option Value)} {st st0 : List Value} {h : kx_Mem} {ν : kx_M} {n idx d' mc' ms' : Nat} {Q' : Option Value → kx_Mem → Prop} {hh : List (Nat × Nat × Nat × Nat)}
theorem kl_iconst (C : kx_Cx g m_La_law p s m args meth c) {n : Int} {v : Int32} (hd : decode m_La_law.2.1 pc = .ok (.iconst n, 1)) (hv : Int32.ofInt n = v) (k : kl_X p l e s m args below meth c g Q cells slots (pc + 1) lv (.int v :: st) h) : kl_X p l e s m args below meth c g Q cells slots pc lv (st) h := by
  intro H locs ls hR hL hl
  exact lv_iconst C.1 C.2.1 hd hv (k H locs ls hR hL hl)
theorem kl_bipush (C : kx_Cx g m_La_law p s m args meth c) {n : Int} {v : Int32} (hd : decode m_La_law.2.1 pc = .ok (.bipush n, 2)) (hv : (Int8.ofInt n).toInt32 = v) (k : kl_X p l e s m args below meth c g Q cells slots (pc + 2) lv (.int v :: st) h) : kl_X p l e s m args below meth c g Q cells slots pc lv (st) h := by
  intro H locs ls hR hL hl
  exact lv_bipush C.1 C.2.1 hd hv (k H locs ls hR hL hl)
theorem kl_iload_n (C : kx_Cx g m_La_law p s m args meth c) {kn : Fin 4} {i : Nat} (hd : decode m_La_law.2.1 pc = .ok (.iload_n kn, 1)) (hi : (kn : Nat) = i) {x : Int32} (hv : lv[i]? = some (some (.int x))) (k : kl_X p l e s m args below meth c g Q cells slots (pc + 1) lv (.int x :: st) h) : kl_X p l e s m args below meth c g Q cells slots pc lv st h := by
  intro H locs ls hR hL hl
  exact lv_iload_n C.1 C.2.1 hd hi (hl.at hv) (k H locs ls hR hL hl)
theorem kl_aload_n (C : kx_Cx g m_La_law p s m args meth c) {kn : Fin 4} {i : Nat} (hd : decode m_La_law.2.1 pc = .ok (.aload_n kn, 1)) (hi : (kn : Nat) = i) {x : Nat} (hv : lv[i]? = some (some (.ref x))) (k : kl_X p l e s m args below meth c g Q cells slots (pc + 1) lv (.ref x :: st) h) : kl_X p l e s m args below meth c g Q cells slots pc lv st h := by
  intro H locs ls hR hL hl
  exact lv_aload_n C.1 C.2.1 hd hi (hl.at hv) (k H locs ls hR hL hl)
theorem kl_istore_n (C : kx_Cx g m_La_law p s m args meth c) {kn : Fin 4} {i : Nat} (hd : decode m_La_law.2.1 pc = .ok (.istore_n kn, 1)) (hi : (kn : Nat) = i) {x : Int32} (hn : i < 4) (k : kl_X p l e s m args below meth c g Q cells slots (pc + 1) (kx_s1 lv i (.int x)) st h) : kl_X p l e s m args below meth c g Q cells slots pc lv (.int x :: st) h := by
  intro H locs ls hR hL hl
  exact lv_istore_n C.1 C.2.1 hd hi hl hn rfl (fun ls' hl' => k H locs ls' hR hL (kx_has.st1 hl'))
theorem kl_astore_n (C : kx_Cx g m_La_law p s m args meth c) {kn : Fin 4} {i : Nat} (hd : decode m_La_law.2.1 pc = .ok (.astore_n kn, 1)) (hi : (kn : Nat) = i) {x : Nat} (hn : i < 4) (k : kl_X p l e s m args below meth c g Q cells slots (pc + 1) (kx_s1 lv i (.ref x)) st h) : kl_X p l e s m args below meth c g Q cells slots pc lv (.ref x :: st) h := by
  intro H locs ls hR hL hl
  exact lv_astore_n C.1 C.2.1 hd hi hl hn rfl (fun ls' hl' => k H locs ls' hR hL (kx_has.st1 hl'))
theorem kl_iinc (C : kx_Cx g m_La_law p s m args meth c) {i : Nat} {n : Int} {x v : Int32} (hd : decode m_La_law.2.1 pc = .ok (.iinc i n, 3)) (hx : lv[i]? = some (some (.int x))) (hn : i < 4) (hv : x + Int32.ofInt n = v) (k : kl_X p l e s m args below meth c g Q cells slots (pc + 3) (kx_s1 lv i (.int v)) st h) : kl_X p l e s m args below meth c g Q cells slots pc lv st h := by
  intro H locs ls hR hL hl
  obtain ⟨k9, hk9⟩ := List.getElem?_of_mem (kx_l_mem (g := g).mpr ⟨_, hx, rfl⟩)
  exact lv_iinc C.1 C.2.1 hd hl (k := k9) hk9 hv hn rfl (fun ls' hl' => k H locs ls' hR hL (kx_has.st1 hl'))
theorem kl_iadd (C : kx_Cx g m_La_law p s m args meth c) {x y : Int32} (hd : decode m_La_law.2.1 pc = .ok (.iadd, 1)) (k : kl_X p l e s m args below meth c g Q cells slots (pc + 1) lv (.int (x + y) :: st) h) : kl_X p l e s m args below meth c g Q cells slots pc lv (.int y :: .int x :: st) h := by
  intro H locs ls hR hL hl
  exact lv_iadd C.1 C.2.1 hd (k H locs ls hR hL hl)
theorem kl_isub (C : kx_Cx g m_La_law p s m args meth c) {x y : Int32} (hd : decode m_La_law.2.1 pc = .ok (.isub, 1)) (k : kl_X p l e s m args below meth c g Q cells slots (pc + 1) lv (.int (x - y) :: st) h) : kl_X p l e s m args below meth c g Q cells slots pc lv (.int y :: .int x :: st) h := by
  intro H locs ls hR hL hl
  exact lv_isub C.1 C.2.1 hd (k H locs ls hR hL hl)
theorem kl_iand (C : kx_Cx g m_La_law p s m args meth c) {x y : Int32} (hd : decode m_La_law.2.1 pc = .ok (.iand, 1)) (k : kl_X p l e s m args below meth c g Q cells slots (pc + 1) lv (.int (x &&& y) :: st) h) : kl_X p l e s m args below meth c g Q cells slots pc lv (.int y :: .int x :: st) h := by
  intro H locs ls hR hL hl
  exact lv_iand C.1 C.2.1 hd (k H locs ls hR hL hl)
theorem kl_icmp_gt (C : kx_Cx g m_La_law p s m args meth c) {x y : Int32} {off : Int} {tgt : Nat} (hd : decode m_La_law.2.1 pc = .ok (.if_icmp .gt off, 3)) (ht : (pc : Int) + off = (tgt : Int)) (kt : y < x → kl_X p l e s m args below meth c g Q cells slots tgt lv st h) (kf : ¬ y < x → kl_X p l e s m args below meth c g Q cells slots (pc + 3) lv st h) : kl_X p l e s m args below meth c g Q cells slots pc lv (.int y :: .int x :: st) h := by
  intro H locs ls hR hL hl
  exact lv_icmp_gt C.1 C.2.1 hd ht (fun q => kt q H locs ls hR hL hl) (fun q => kf q H locs ls hR hL hl)
theorem kl_icmp_eq (C : kx_Cx g m_La_law p s m args meth c) {x y : Int32} {off : Int} {tgt : Nat} (hd : decode m_La_law.2.1 pc = .ok (.if_icmp .eq off, 3)) (ht : (pc : Int) + off = (tgt : Int)) (kt : x = y → kl_X p l e s m args below meth c g Q cells slots tgt lv st h) (kf : ¬ x = y → kl_X p l e s m args below meth c g Q cells slots (pc + 3) lv st h) : kl_X p l e s m args below meth c g Q cells slots pc lv (.int y :: .int x :: st) h := by
  intro H locs ls hR hL hl
  exact lv_icmp_eq C.1 C.2.1 hd ht (fun q => kt q H locs ls hR hL hl) (fun q => kf q H locs ls hR hL hl)
theorem kl_if_eq (C : kx_Cx g m_La_law p s m args meth c) {x : Int32} {off : Int} {tgt : Nat} (hd : decode m_La_law.2.1 pc = .ok (.ifCond .eq off, 3)) (ht : (pc : Int) + off = (tgt : Int)) (kt : x = 0 → kl_X p l e s m args below meth c g Q cells slots tgt lv st h) (kf : ¬ x = 0 → kl_X p l e s m args below meth c g Q cells slots (pc + 3) lv st h) : kl_X p l e s m args below meth c g Q cells slots pc lv (.int x :: st) h := by
  intro H locs ls hR hL hl
  exact lv_if_eq C.1 C.2.1 hd ht (fun q => kt q H locs ls hR hL hl) (fun q => kf q H locs ls hR hL hl)
theorem kl_goto (C : kx_Cx g m_La_law p s m args meth c) {off : Int} {tgt : Nat} (hd : decode m_La_law.2.1 pc = .ok (.goto off, 3)) (ht : (pc : Int) + off = (tgt : Int)) (k : kl_X p l e s m args below meth c g Q cells slots tgt lv st h) : kl_X p l e s m args below meth c g Q cells slots pc lv st h := by
  intro H locs ls hR hL hl
  exact lv_goto C.1 C.2.1 hd ht (k H locs ls hR hL hl)
theorem kl_tableOut (C : kx_Cx g m_La_law p s m args meth c) {dflt lo hi : Int} {offs : Array Int} {len : Nat} {x : Int32} {tgt : Nat} (hd : decode m_La_law.2.1 pc = .ok (.tableswitch dflt lo hi offs, len)) (hx : x.toInt < lo ∨ hi < x.toInt) (ht : (pc : Int) + dflt = (tgt : Int)) (k : kl_X p l e s m args below meth c g Q cells slots tgt lv st h) : kl_X p l e s m args below meth c g Q cells slots pc lv (.int x :: st) h := by
  intro H locs ls hR hL hl
  exact lv_tableOut C.1 C.2.1 hd hx ht (k H locs ls hR hL hl)
theorem kl_tableIn (C : kx_Cx g m_La_law p s m args meth c) {dflt lo hi : Int} {offs : Array Int} {len : Nat} {x : Int32} {off : Int} {tgt : Nat} (hd : decode m_La_law.2.1 pc = .ok (.tableswitch dflt lo hi offs, len)) (h1 : ¬ x.toInt < lo) (h2 : ¬ hi < x.toInt) (ho : offs[(x.toInt - lo).toNat]? = some off) (ht : (pc : Int) + off = (tgt : Int)) (k : kl_X p l e s m args below meth c g Q cells slots tgt lv st h) : kl_X p l e s m args below meth c g Q cells slots pc lv (.int x :: st) h := by
  intro H locs ls hR hL hl
  exact lv_tableIn C.1 C.2.1 hd h1 h2 ho ht (k H locs ls hR hL hl)
theorem kl_dup (C : kx_Cx g m_La_law p s m args meth c) {v : Value} (hd : decode m_La_law.2.1 pc = .ok (.dup, 1)) (hc : v.category = 1) (k : kl_X p l e s m args below meth c g Q cells slots (pc + 1) lv (v :: v :: st) h) : kl_X p l e s m args below meth c g Q cells slots pc lv (v :: st) h := by
  intro H locs ls hR hL hl
  exact lv_dup C.1 C.2.1 hd ((kx_cv_cat _ _).trans hc) (k H locs ls hR hL hl)
theorem kl_istore_ne (C : kx_Cx g m_La_law p s m args meth c) {kn : Fin 4} {i : Nat} {x : Int32} (hd : decode m_La_law.2.1 pc = .ok (.istore_n kn, 1)) (hi : (kn : Nat) = i) (hn : i < 4) (hlv : kx_s1 lv i (.int x) = lv') (k : kl_X p l e s m args below meth c g Q cells slots (pc + 1) lv' st h) : kl_X p l e s m args below meth c g Q cells slots pc lv (.int x :: st) h := kl_istore_n C hd hi hn (by rw [hlv]; exact k)
theorem kl_astore_ne (C : kx_Cx g m_La_law p s m args meth c) {kn : Fin 4} {i x : Nat} (hd : decode m_La_law.2.1 pc = .ok (.astore_n kn, 1)) (hi : (kn : Nat) = i) (hn : i < 4) (hlv : kx_s1 lv i (.ref x) = lv') (k : kl_X p l e s m args below meth c g Q cells slots (pc + 1) lv' st h) : kl_X p l e s m args below meth c g Q cells slots pc lv (.ref x :: st) h := kl_astore_n C hd hi hn (by rw [hlv]; exact k)
theorem kl_iinc_e (C : kx_Cx g m_La_law p s m args meth c) {i : Nat} {n : Int} {x v : Int32} (hd : decode m_La_law.2.1 pc = .ok (.iinc i n, 3)) (hx : lv[i]? = some (some (.int x))) (hn : i < 4) (hv : x + Int32.ofInt n = v) (hlv : kx_s1 lv i (.int v) = lv') (k : kl_X p l e s m args below meth c g Q cells slots (pc + 3) lv' st h) : kl_X p l e s m args below meth c g Q cells slots pc lv st h := kl_iinc C hd hx hn hv (by rw [hlv]; exact k)
theorem kl_sld (C : kx_Cx g m_La_law p s m args meth c) {a b L : Nat} {xs : Nat → Int32} (hX : va_X b L xs s g.2.2.2.2) (hb : b < g.2.2.1) (hbg : kx_ad g a = b) {i : Int32} (hin : vp_in i L) (hd : decode m_La_law.2.1 pc = .ok (.iaload, 1)) (k : kl_X p l e s m args below meth c g Q cells slots (pc + 1) lv (.int (xs i.toNatClampNeg) :: st) h) : kl_X p l e s m args below meth c g Q cells slots pc lv (.int i :: .ref a :: st) h := by
  intro H locs ls hR hL hl
  obtain ⟨scr, h1, h2, h3, h4, h5⟩ := hX
  have hlt : i.toNatClampNeg < L := Nat.not_le.mp fun q => hin (Or.inr q)
  have hc : H[kx_ad g a]? = some scr := by rw [hbg, hR.2.2.1.2 b hb]; exact h1
  exact W.iald (v := .int (xs i.toNatClampNeg)) C.1 C.2.1 hc h2 h3 (by rw [h4]; exact hin) (h5 _ hlt) rfl rfl hd (k H locs ls hR hL hl)
theorem kl_sldn (C : kx_Cx g m_La_law p s m args meth c) {a b L : Nat} {xs : Nat → Int32} (q : Nat) (hX : va_X b L xs s g.2.2.2.2) (hb : b < g.2.2.1) (hbg : kx_ad g a = b) {i : Int32} (hq : i = nI q) (hqn : q < L) (hn : L < 2 ^ 31) (hd : decode m_La_law.2.1 pc = .ok (.iaload, 1)) (k : kl_X p l e s m args below meth c g Q cells slots (pc + 1) lv (.int (xs q) :: st) h) : kl_X p l e s m args below meth c g Q cells slots pc lv (.int i :: .ref a :: st) h := by
  subst hq
  refine kl_sld C hX hb hbg (vp_in_nI hqn hn) hd ?_
  rw [nI_clamp (by omega)]
  exact k
theorem kl_slen (C : kx_Cx g m_La_law p s m args meth c) {a b L : Nat} {xs : Nat → Int32} (hX : va_X b L xs s g.2.2.2.2) (hb : b < g.2.2.1) (hbg : kx_ad g a = b) (hd : decode m_La_law.2.1 pc = .ok (.arraylength, 1)) (k : kl_X p l e s m args below meth c g Q cells slots (pc + 1) lv (.int (nI L) :: st) h) : kl_X p l e s m args below meth c g Q cells slots pc lv (.ref a :: st) h := by
  intro H locs ls hR hL hl
  obtain ⟨scr, h1, h2, h3, h4, h5⟩ := hX
  have hc : H[kx_ad g a]? = some scr := by rw [hbg, hR.2.2.1.2 b hb]; exact h1
  exact W.alen (n := nI L) C.1 C.2.1 hc h2 (by rw [h4]; rfl) rfl rfl hd (k H locs ls hR hL hl)
theorem kl_widen {k0 n0 : Nat} (h1 : cells ≤ k0) (h2 : slots ≤ n0) (k : kl_X p l e s m args below meth c g Q k0 n0 pc lv st h) : kl_X p l e s m args below meth c g Q cells slots pc lv st h := fun H locs ls hR hL hl => W.widen h1 h2 (k H locs ls hR hL hl)
theorem kl_end (C : kx_Cx g m_La_law p s m args meth c) {b : Nat} (hg : g.2.2.1 = s.heap.size) (hc : cells ≤ 601024) (hs : slots ≤ 7293034) (hd : decode m_La_law.2.1 pc = .ok (.ireturn, 1)) : kl_X p l e s m #[Value.ref b] below meth c g (lw_Z below #[Value.ref b] s) cells slots pc lv [.int 1] h := fun H locs ls hR hL hl => va_forget (fun q hq => by rw [← hg]; exact hL q hq) (W.widen hc hs (lw_ret C.1 C.2.1 C.2.2.1 C.2.2.2.2.2.2.1 hd))
theorem kl_after {H : Heap} {locs : List Loc} {ls : Array Slot} {a9 : Array Value}
    (hr : va_Run p l e (room_1) s m args below meth c H locs cells slots mc' ms' (F0 m pc ls (st0.map (kx_cv g))) (st.map (kx_cv g)) (kx_Qc g Q' a9) (fun q => g.2.2.1 ≤ q))
    (hL : ∀ q ∈ locs, g.2.2.1 ≤ q.base) (hl : kx_has g ls 4 lv) (kk : ∀ v h', Q' v h' → kl_X p l e s m args below meth c g Q (cells + mc') (slots + ms') (pc + 3) lv (v.toList ++ st) h') :
    W p l e (room_1) s m args below meth c H locs cells slots Q (F0 m pc ls (st0.map (kx_cv g))) := by
  intro T hT X
  obtain ⟨v, st₀, t, T', L, h0, X', hLL, e1, e2, ⟨v', h', hv, hRel, hQ⟩, stp⟩ := hr T hT X
  cases hv
  obtain ⟨t2, a1, b1⟩ := kk v' h' hQ T'.heap (locs ++ L) ls (by rw [e1]; exact hRel) (fun q hq => by
    rcases List.mem_append.mp hq with hq | hq
    · exact hL q hq
    · exact hLL q hq) hl T' rfl X'
  rw [← kx_stk] at a1
  exact ⟨t2, stp t2 a1, b1⟩
theorem kl_invV (C : kx_Cx g m_La_law p s m args meth c) {a ci : Nat} {r : vw_C} {as : List Value} (hd : decode m_La_law.2.1 pc = .ok (.invokevirtual idx, 3)) (hl0 : kx_LV "TreatyClaimsLaw" idx ν) (hw : kx_MW ν n) (hk : (h.2.2.2.1 a).1 = ci + 1) (hc : kx_cl[ci]? = some r) (hcn : r.1 = ν.1.cls) (hst : st0 = as.reverse ++ .ref a :: st) (hn : as.length = n) (hcat : (st.map fun v => v.category).sum ≤ 8)
    (hM : kx_Sp l g ν (.ref a :: as) h d' mc' ms' Q') (hdd : d' + 1 ≤ 2048) (hf : cells + mc' ≤ 601024 ∧ slots + ms' ≤ 7293034) (kk : ∀ v h', Q' v h' → kl_X p l e s m args below meth c g Q (cells + mc') (slots + ms') (pc + 3) lv (v.toList ++ st) h') : kl_X p l e s m args below meth c g Q cells slots pc lv st0 h := by
  intro H locs ls hR hL hl
  obtain ⟨hx, hb, -, hml, hown, hts, -, hnm, hK⟩ := id C
  have hrecv := kx_recv hK hR hk hc
  rw [hcn] at hrecv
  have hpre := kx_preS (as := .ref a :: as) hK hR
  have hpv : PreV s H ν.1.cls (kx_ad g a) (kx_Pc g (.ref a :: as) h) (as.map (kx_cv g)) := ⟨hpre.1, hrecv, hpre.2⟩
  have hlen : (as.map (kx_cv g)).length = n := by rw [List.length_map]; exact hn
  have hstk : st0.map (kx_cv g) = (as.map (kx_cv g)).reverse ++ .ref (kx_ad g a) :: st.map (kx_cv g) := by rw [hst]; simp [kx_cv]
  have hcat' : ((st.map (kx_cv g)).map fun v => v.category).sum ≤ 8 := by rw [List.map_map]; simpa [Function.comp_def, kx_cv_cat] using hcat
  have h13 := hw.2.2.2.2.1
  have hbd : (kx_room d' mc' ms').frames + 1 ≤ (room_1).frames ∧ 8 + (ν.2.2.1 + 11) + (kx_room d' mc' ms').locals ≤ (room_1).locals := ⟨hdd, by show 8 + (ν.2.2.1 + 11) + 32 * d' ≤ 84000; omega⟩
  obtain ⟨hlk, hin, hse⟩ := hl0
  rcases hlk with hlk | ⟨host, hlk⟩
  · exact kl_after (va_runV (bytes := ν.2.1) (maxL := ν.2.2.1) (ret := ν.2.2.2) (Ts := kx_good) ⟨hx, hb, hml, hown, hts⟩ hM ⟨⟨rfl, rfl, hbd.1, hbd.2, kx_good_in hw hts, List.mem_cons_self, hts _ hw.1, hts _ hw.2.1, hw.2.2.1, kx_desc hw, hts _ hlk⟩, hts _ hin, hts _ hse⟩ hpv rfl hlen hl.1 hstk (lv_room hcat') hd hf) hL hl kk
  · exact kl_after (va_runVN (bytes := ν.2.1) (maxL := ν.2.2.1) (ret := ν.2.2.2) (Ts := kx_good) ⟨hx, hb, hml, hown, hts⟩ hM ⟨⟨⟨rfl, rfl, hbd.1, hbd.2, kx_good_in hw hts, List.mem_cons_self⟩, hts _ hw.1, hts _ hw.2.1, hw.2.2.1, kx_desc hw, va_Nw.use rfl (hK.2.2.1 _ hlk)⟩, hts _ hin, hts _ hse⟩ hpv rfl hlen hl.1 hstk (lv_room hcat') hd hf) hL hl kk
theorem kl_invI (C : kx_Cx g m_La_law p s m args meth c) {a : Nat} {as : List Value} (hret : ν.2.2.2 = none) (hd : decode m_La_law.2.1 pc = .ok (.invokespecial idx, 3)) (hl0 : kx_LI "TreatyClaimsLaw" idx ν) (hw : kx_MW ν n) (hst : st0 = as.reverse ++ .ref a :: st) (hn : as.length = n) (hcat : (st.map fun v => v.category).sum ≤ 8)
    (hM : kx_Sp l g ν (.ref a :: as) h d' mc' ms' Q') (hdd : d' + 1 ≤ 2048) (hf : cells + mc' ≤ 601024 ∧ slots + ms' ≤ 7293034) (kk : ∀ v h', Q' v h' → kl_X p l e s m args below meth c g Q (cells + mc') (slots + ms') (pc + 3) lv (v.toList ++ st) h') : kl_X p l e s m args below meth c g Q cells slots pc lv st0 h := by
  intro H locs ls hR hL hl
  obtain ⟨hx, hb, -, hml, hown, hts, -, hnm, hK⟩ := id C
  have hpre := kx_preS (as := .ref a :: as) hK hR
  have hlen : (as.map (kx_cv g)).length = n := by rw [List.length_map]; exact hn
  have hstk : st0.map (kx_cv g) = (as.map (kx_cv g)).reverse ++ .ref (kx_ad g a) :: st.map (kx_cv g) := by rw [hst]; simp [kx_cv]
  have hcat' : ((st.map (kx_cv g)).map fun v => v.category).sum ≤ 8 := by rw [List.map_map]; simpa [Function.comp_def, kx_cv_cat] using hcat
  have h13 := hw.2.2.2.2.1
  have hbd : (kx_room d' mc' ms').frames + 1 ≤ (room_1).frames ∧ 8 + (ν.2.2.1 + 11) + (kx_room d' mc' ms').locals ≤ (room_1).locals := ⟨hdd, by show 8 + (ν.2.2.1 + 11) + 32 * d' ≤ 84000; omega⟩
  have hcode := hts _ hw.1
  rw [hret] at hcode
  have hin1 : Cond.code ν.1 ν.2.1 ν.2.2.1 none ∈ kx_ws ν := by
    have : Cond.code ν.1 ν.2.1 ν.2.2.1 ν.2.2.2 ∈ kx_ws ν := List.mem_cons_self
    rwa [hret] at this
  obtain ⟨hlk, hnin, hin⟩ := hl0
  rcases hlk with hlk | ⟨host, hlk⟩
  · exact kl_after (va_runI (bytes := ν.2.1) (maxL := ν.2.2.1) (Ts := kx_good) ⟨hx, hb, hml, hown, hts⟩ hM ⟨⟨rfl, rfl, hbd.1, hbd.2, kx_good_in hw hts, hin1, hcode, hts _ hw.2.1, hw.2.2.1, kx_desc hw, hts _ hlk⟩, hnin, hts _ hin⟩ hpre rfl hlen hl.1 hstk (lv_room hcat') hd hf) hL hl kk
  · exact kl_after (va_runIN (bytes := ν.2.1) (maxL := ν.2.2.1) (Ts := kx_good) ⟨hx, hb, hml, hown, hts⟩ hM ⟨⟨⟨rfl, rfl, hbd.1, hbd.2, kx_good_in hw hts, hin1⟩, hcode, hts _ hw.2.1, hw.2.2.1, kx_desc hw, va_Nw.use rfl (hK.2.2.1 _ hlk)⟩, hnin, hts _ hin⟩ hpre rfl hlen hl.1 hstk (lv_room hcat') hd hf) hL hl kk
theorem kl_invW (C : kx_Cx g m_La_law p s m args meth c) {a ci : Nat} {r : vw_C} {as : List Value} (hd : decode m_La_law.2.1 pc = .ok (.invokevirtual idx, 3)) (hlk : Cond.methodLink "TreatyClaimsLaw" idx ν.1 ∈ kx_good) (hin : Cond.instanceMethod ν.1 ∈ kx_good) (hse : Cond.selects ν.1.cls ν.1 ν.1 ∈ kx_good) (hw : kw_MW ν n hh) (hk : (h.2.2.2.1 a).1 = ci + 1) (hc : kx_cl[ci]? = some r) (hcn : r.1 = ν.1.cls) (hst : st0 = as.reverse ++ .ref a :: st) (hn : as.length = n) (hcat : (st.map fun v => v.category).sum ≤ 8)
    (hM : kw_Sp l g ν hh (.ref a :: as) h d' mc' ms' Q') (hdd : d' + 1 ≤ 2048) (hf : cells + mc' ≤ 601024 ∧ slots + ms' ≤ 7293034) (kk : ∀ v h', Q' v h' → kl_X p l e s m args below meth c g Q (cells + mc') (slots + ms') (pc + 3) lv (v.toList ++ st) h') : kl_X p l e s m args below meth c g Q cells slots pc lv st0 h := by
  intro H locs ls hR hL hl
  obtain ⟨hx, hb, -, hml, hown, hts, -, hnm, hK⟩ := id C
  have hrecv := kx_recv hK hR hk hc
  rw [hcn] at hrecv
  have hpre := kx_preS (as := .ref a :: as) hK hR
  have hlen : (as.map (kx_cv g)).length = n := by rw [List.length_map]; exact hn
  have hstk : st0.map (kx_cv g) = (as.map (kx_cv g)).reverse ++ .ref (kx_ad g a) :: st.map (kx_cv g) := by rw [hst]; simp [kx_cv]
  have hcat' : ((st.map (kx_cv g)).map fun v => v.category).sum ≤ 8 := by rw [List.map_map]; simpa [Function.comp_def, kx_cv_cat] using hcat
  have h13 := hw.2.2.2.2
  have hin0 : ∀ w ∈ kw_ws ν hh, ∀ (a' : Array Value) (U : State), s.WarmedH U.vm → w.before a' U = true := by
    refine pay_in (big := kx_good) hts (fun w h => ?_)
    have h1 : w ∈ kx_good := by
      rcases List.mem_cons.mp h with rfl | h
      · exact hw.1
      · exact h
    exact ⟨h1, good_of_word (List.mem_filter.mp h1).2⟩
  have hB := va_backW (R := room_1) (p := p) (e := e) (below := below) (s := s) (sargs := args) (len := 3) (W := 8) (bytes := ν.2.1) (maxL := ν.2.2.1) (ret := ν.2.2.2) (hh := hh) hM hpre.1 rfl rfl hdd (show 8 + (ν.2.2.1 + 11) + 32 * d' ≤ 84000 by omega) hin0 List.mem_cons_self (fun a' U hW => word_at hW (Or.inl (by first | rfl | simp [Cond.onTables, Cond.keeps, Cond.steady])) (hts _ hw.2.1))
  refine kl_after (a9 := (Value.ref (kx_ad g a) :: as.map (kx_cv g)).toArray) ?_ hL hl kk
  obtain ⟨cellB, hcB, hoB, hclB⟩ := hrecv
  intro T hT X
  obtain ⟨v, vm₁, ⟨U', l2, c2, s2⟩, hW₁, X', ⟨g', mk, t, L, e1, e2, hq, h1, hLL, h2, h3⟩, stp⟩ := kw_callV X hx (C := ν.1.cls) (bytes := ν.2.1) (maxL := ν.2.2.1) (ret := ν.2.2.2) (hh := hh) hown (hts _ hlk) (hts _ hin) (hts _ hse) (hts _ hw.1) hw.2.2.1 hB (by rw [hT]; exact hcB) hoB hclB (g := F0 m pc ls (st0.map (kx_cv g))) rfl (hl.1.trans hml.symm) (argsL := as.map (kx_cv g)) (rest := st.map (kx_cv g)) (fun sig z => hlen.trans (by
      have h2 := hw.2.2.2.1
      rw [z] at h2
      exact (Option.some.inj h2).symm)) hstk (lv_room hcat') (by rw [hb]; exact hd)
    (fun vm₁ hW₁ => ⟨hf.1, hf.2, hpre.2 (T.setVm vm₁) hT hW₁⟩)
  dsimp only [Pt.U, Pt.locs, Pt.cells, Pt.slots] at X' e1 e2 h1 h2 h3 stp
  subst h1; subst h2; subst h3
  exact ⟨v, (T.setVm vm₁).calling g' mk _, t, U', L, hT, X', hLL, e1, e2, hq, stp⟩
theorem kl_newO (C : kx_Cx g m_La_law p s m args meth c) {ci index : Nat} {r : vw_C} (hc : kx_cl[ci]? = some r) (hw : Cond.classLink "TreatyClaimsLaw" index r.1 ∈ kx_good) (hw2 : Cond.instantiable r.1 r.2.2 ∈ kx_good) (hw3 : Cond.initialized r.1 ∈ kx_good) (hN : h.2.2.2.2 < 1000000) (hcells : cells + 1 ≤ 601024) (hslots : slots + r.2.2 ≤ 7293034) (hd : decode m_La_law.2.1 pc = .ok (.new index, 3))
    (k : kl_X p l e s m args below meth c g Q (cells + 1) (slots + r.2.2) (pc + 3) lv (.ref h.2.2.2.2 :: st) (kx_new h (ci + 1) 0)) : kl_X p l e s m args below meth c g Q cells slots pc lv st h := by
  intro H locs ls hR hL hl
  obtain ⟨hx, hb, -, -, hown, hts, -, hnm, hK⟩ := id C
  have hKn := hK.1.1 ci _ hc
  refine W.newcK hx hb hown (hts _ hw) (hts _ hw2) (hts _ hw3) rfl hd hcells hslots hKn.2.1 rfl fun H1 kC hkC e1 z1 o1 => ?_
  have had : kx_ad g h.2.2.2.2 = H.size := by unfold kx_ad; rw [if_pos hN, hR.1]
  have hrel : kx_Rel g (kx_new h (ci + 1) 0) H1 := by
    refine hR.new hN z1 o1 ⟨fun ci' r' hk' hc' => ?_, fun hk' => ?_⟩
    · have hk2 : ((if h.2.2.2.2 = h.2.2.2.2 then (ci + 1, 0) else h.2.2.2.1 h.2.2.2.2) : Nat × Nat).1 = ci' + 1 := hk'
      rw [if_pos rfl] at hk2
      have hci : ci' = ci := by simp at hk2; omega
      subst hci
      cases hc.symm.trans hc'
      rw [had]
      exact (u_born (kx_ty ci') hts (kx_cw ci' r hc).1 hKn hkC e1 (kx_cw ci' r hc).2.1).to (fun j hj => (kx_mv_new0 g (kx_ty_nf ci' r hc j hj)).symm)
    · have hk2 : 50 ≤ ((if h.2.2.2.2 = h.2.2.2.2 then (ci + 1, 0) else h.2.2.2.1 h.2.2.2.2) : Nat × Nat).1 := hk'
      rw [if_pos rfl] at hk2
      have : ci < kx_cl.length := (List.getElem?_eq_some_iff.mp hc).1
      have h15 : kx_cl.length = 15 := rfl
      simp at hk2
      omega
  have := k H1 locs ls hrel hL hl
  simp only [List.map_cons, kx_cv, had] at this
  exact this
end KLR
