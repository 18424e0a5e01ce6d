/-! the law's cases -/
theorem kw_lk74 : Cond.methodLink "TreatyClaimsLaw" 74 m_Mo_rules.1 ∈ kx_good := kx_ic kx_L6 158 (by decide +kernel) rfl
theorem kw_wrules : kw_MW m_Mo_rules 1 [(24, 33, 36, 245)] := ⟨kx_ic kx_L6 161 (by decide +kernel) rfl, kx_ic kx_L1 14 (by decide +kernel) rfl, by decide +kernel, by decide +kernel, by decide⟩
theorem la_feed {p : Program} {l : Launch} {e : Env} {s : State} {m : MethodId} {args : Array Value} {below : List Frame} {meth : Method} {c : Code} {g : kx_G} {Q : State → Prop} {b L : Nat} {xs : Nat → Int32} (C : kx_Cx g m_La_law p s m args meth c) (hX : va_X b L xs s g.2.2.2.2) (hb : b < g.2.2.1) (hbg : kx_ad g 1000300 = b) (hL : L ≤ 3584) {k : Nat} {h : kx_Mem} (hk : k < 512) (hq7 : 7 * k + 7 ≤ L) (hG : Glob k h) (kont : ∀ h2, Glob (k + 1) h2 → kl_X p l e s m args below meth c g Q (200 + 3 * (k + 1)) (40000 + 511 * (k + 1)) 1785 [some (.ref 1000300), some (.ref 0), some (.ref 84), some (.int (nI (7 * k)))] [] h2) : kl_X p l e s m args below meth c g Q (200 + 3 * k) (40000 + 511 * k) 236 [some (.ref 1000300), some (.ref 0), some (.ref 84), some (.int (nI (7 * k)))] [] h := by
  refine kl_aload_n C (pc := 236) (kx_dd d_La_1 0 rfl) rfl rfl ?_
  refine kl_aload_n C (pc := 237) (kx_dd d_La_1 1 rfl) rfl rfl ?_
  refine kl_iload_n C (pc := 238) (kx_dd d_La_1 2 rfl) rfl rfl ?_
  refine kl_iconst C (pc := 239) (v := nI 1) (kx_dd d_La_1 3 rfl) (by decide) ?_
  refine kl_iadd C (pc := 240) (kx_dd d_La_1 4 rfl) ?_
  refine kl_sldn C (pc := 241) (7 * k + 1) hX hb hbg (by rw [nI_add]) (by omega) (by omega) (kx_dd d_La_1 5 rfl) ?_
  refine kl_aload_n C (pc := 242) (kx_dd d_La_1 6 rfl) rfl rfl ?_
  refine kl_iload_n C (pc := 243) (kx_dd d_La_1 7 rfl) rfl rfl ?_
  refine kl_iconst C (pc := 244) (v := nI 2) (kx_dd d_La_1 8 rfl) (by decide) ?_
  refine kl_iadd C (pc := 245) (kx_dd d_La_1 9 rfl) ?_
  refine kl_sldn C (pc := 246) (7 * k + 2) hX hb hbg (by rw [nI_add]) (by omega) (by omega) (kx_dd d_La_1 10 rfl) ?_
  refine kl_aload_n C (pc := 247) (kx_dd d_La_1 11 rfl) rfl rfl ?_
  refine kl_iload_n C (pc := 248) (kx_dd d_La_1 12 rfl) rfl rfl ?_
  refine kl_iconst C (pc := 249) (v := nI 3) (kx_dd d_La_1 13 rfl) (by decide) ?_
  refine kl_iadd C (pc := 250) (kx_dd d_La_1 14 rfl) ?_
  refine kl_sldn C (pc := 251) (7 * k + 3) hX hb hbg (by rw [nI_add]) (by omega) (by omega) (kx_dd d_La_1 15 rfl) ?_
  refine kl_aload_n C (pc := 252) (kx_dd d_La_1 16 rfl) rfl rfl ?_
  refine kl_iload_n C (pc := 253) (kx_dd d_La_1 17 rfl) rfl rfl ?_
  refine kl_iconst C (pc := 254) (v := nI 4) (kx_dd d_La_1 18 rfl) (by decide) ?_
  refine kl_iadd C (pc := 255) (kx_dd d_La_1 19 rfl) ?_
  refine kl_sldn C (pc := 256) (7 * k + 4) hX hb hbg (by rw [nI_add]) (by omega) (by omega) (kx_dd d_La_1 20 rfl) ?_
  refine kl_aload_n C (pc := 257) (kx_dd d_La_1 21 rfl) rfl rfl ?_
  refine kl_iload_n C (pc := 258) (kx_dd d_La_1 22 rfl) rfl rfl ?_
  refine kl_iconst C (pc := 259) (v := nI 5) (kx_dd d_La_1 23 rfl) (by decide) ?_
  refine kl_iadd C (pc := 260) (kx_dd d_La_1 24 rfl) ?_
  refine kl_sldn C (pc := 261) (7 * k + 5) hX hb hbg (by rw [nI_add]) (by omega) (by omega) (kx_dd d_La_1 25 rfl) ?_
  refine kl_invV C (pc := 262) (a := 0) (ci := 12) (as := [.int (xs (7 * k + 1)), .int (xs (7 * k + 2)), .int (xs (7 * k + 3)), .int (xs (7 * k + 4)), .int (xs (7 * k + 5))]) (kx_dd d_La_1 26 rfl) ⟨lk_La_13, wi_Tc_feed, we_Tc_feed⟩ w_Tc_feed hG.k0 rfl rfl rfl rfl (Nat.le_of_ble_eq_true rfl) (st_feed hk hG (xs (7 * k + 1)) (xs (7 * k + 2)) (xs (7 * k + 3)) (xs (7 * k + 4)) (xs (7 * k + 5))) (by decide) ⟨by omega, by omega⟩ (fun v h1 hq => ?_)
  obtain ⟨y, rfl, k84, hM⟩ := hq
  refine kl_aload_n C (pc := 265) (kx_dd d_La_1 27 rfl) rfl rfl ?_
  refine kl_aload_n C (pc := 266) (kx_dd d_La_1 28 rfl) rfl rfl ?_
  refine kl_iload_n C (pc := 267) (kx_dd d_La_1 29 rfl) rfl rfl ?_
  refine kl_iconst C (pc := 268) (v := nI 1) (kx_dd d_La_1 30 rfl) (by decide) ?_
  refine kl_iadd C (pc := 269) (kx_dd d_La_1 31 rfl) ?_
  refine kl_sldn C (pc := 270) (7 * k + 1) hX hb hbg (by rw [nI_add]) (by omega) (by omega) (kx_dd d_La_1 32 rfl) ?_
  refine kl_aload_n C (pc := 271) (kx_dd d_La_1 33 rfl) rfl rfl ?_
  refine kl_iload_n C (pc := 272) (kx_dd d_La_1 34 rfl) rfl rfl ?_
  refine kl_iconst C (pc := 273) (v := nI 2) (kx_dd d_La_1 35 rfl) (by decide) ?_
  refine kl_iadd C (pc := 274) (kx_dd d_La_1 36 rfl) ?_
  refine kl_sldn C (pc := 275) (7 * k + 2) hX hb hbg (by rw [nI_add]) (by omega) (by omega) (kx_dd d_La_1 37 rfl) ?_
  refine kl_aload_n C (pc := 276) (kx_dd d_La_1 38 rfl) rfl rfl ?_
  refine kl_iload_n C (pc := 277) (kx_dd d_La_1 39 rfl) rfl rfl ?_
  refine kl_iconst C (pc := 278) (v := nI 3) (kx_dd d_La_1 40 rfl) (by decide) ?_
  refine kl_iadd C (pc := 279) (kx_dd d_La_1 41 rfl) ?_
  refine kl_sldn C (pc := 280) (7 * k + 3) hX hb hbg (by rw [nI_add]) (by omega) (by omega) (kx_dd d_La_1 42 rfl) ?_
  refine kl_aload_n C (pc := 281) (kx_dd d_La_1 43 rfl) rfl rfl ?_
  refine kl_iload_n C (pc := 282) (kx_dd d_La_1 44 rfl) rfl rfl ?_
  refine kl_iconst C (pc := 283) (v := nI 4) (kx_dd d_La_1 45 rfl) (by decide) ?_
  refine kl_iadd C (pc := 284) (kx_dd d_La_1 46 rfl) ?_
  refine kl_sldn C (pc := 285) (7 * k + 4) hX hb hbg (by rw [nI_add]) (by omega) (by omega) (kx_dd d_La_1 47 rfl) ?_
  refine kl_aload_n C (pc := 286) (kx_dd d_La_1 48 rfl) rfl rfl ?_
  refine kl_iload_n C (pc := 287) (kx_dd d_La_1 49 rfl) rfl rfl ?_
  refine kl_iconst C (pc := 288) (v := nI 5) (kx_dd d_La_1 50 rfl) (by decide) ?_
  refine kl_iadd C (pc := 289) (kx_dd d_La_1 51 rfl) ?_
  refine kl_sldn C (pc := 290) (7 * k + 5) hX hb hbg (by rw [nI_add]) (by omega) (by omega) (kx_dd d_La_1 52 rfl) ?_
  refine kl_invV C (pc := 291) (a := 84) (ci := 14) (as := [.int (xs (7 * k + 1)), .int (xs (7 * k + 2)), .int (xs (7 * k + 3)), .int (xs (7 * k + 4)), .int (xs (7 * k + 5))]) (st := [.int y]) (kx_dd d_La_1 53 rfl) ⟨lk_La_17, wi_Mo_feed, we_Mo_feed⟩ w_Mo_feed k84 rfl rfl rfl rfl (Nat.le_of_ble_eq_true rfl) hM (by decide) ⟨by omega, by omega⟩ (fun v2 h2 hq2 => ?_)
  obtain ⟨rfl, hG2⟩ := hq2
  refine kl_icmp_eq C (pc := 294) (tgt := 1785) (kx_dd d_La_1 54 rfl) (by decide) (fun _ => ?_) (fun z => absurd rfl z)
  exact kl_widen (by omega) (by omega) (kont h2 hG2)
theorem la_end {p : Program} {l : Launch} {e : Env} {s : State} {m : MethodId} {args : Array Value} {below : List Frame} {meth : Method} {c : Code} {g : kx_G} {Q : State → Prop} {b L : Nat} {xs : Nat → Int32} (C : kx_Cx g m_La_law p s m args meth c) (hX : va_X b L xs s g.2.2.2.2) (hb : b < g.2.2.1) (hbg : kx_ad g 1000300 = b) (hL : L ≤ 3584) {k : Nat} {h : kx_Mem} (hk : k < 512) (hq7 : 7 * k + 7 ≤ L) (hG : Glob k h) (kont : ∀ h2, Glob (k + 1) h2 → kl_X p l e s m args below meth c g Q (200 + 3 * (k + 1)) (40000 + 511 * (k + 1)) 1785 [some (.ref 1000300), some (.ref 0), some (.ref 84), some (.int (nI (7 * k)))] [] h2) : kl_X p l e s m args below meth c g Q (200 + 3 * k) (40000 + 511 * k) 299 [some (.ref 1000300), some (.ref 0), some (.ref 84), some (.int (nI (7 * k)))] [] h := by
  refine kl_aload_n C (pc := 299) (kx_dd d_La_2 0 rfl) rfl rfl ?_
  refine kl_aload_n C (pc := 300) (kx_dd d_La_2 1 rfl) rfl rfl ?_
  refine kl_iload_n C (pc := 301) (kx_dd d_La_2 2 rfl) rfl rfl ?_
  refine kl_iconst C (pc := 302) (v := nI 1) (kx_dd d_La_2 3 rfl) (by decide) ?_
  refine kl_iadd C (pc := 303) (kx_dd d_La_2 4 rfl) ?_
  refine kl_sldn C (pc := 304) (7 * k + 1) hX hb hbg (by rw [nI_add]) (by omega) (by omega) (kx_dd d_La_2 5 rfl) ?_
  refine kl_invV C (pc := 305) (a := 0) (ci := 12) (as := [.int (xs (7 * k + 1))]) (kx_dd d_La_2 6 rfl) ⟨lk_La_18, wi_Tc_end, we_Tc_end⟩ w_Tc_end hG.k0 rfl rfl rfl rfl (Nat.le_of_ble_eq_true rfl) (st_end hk hG (xs (7 * k + 1))) (by decide) ⟨by omega, by omega⟩ (fun v h1 hq => ?_)
  obtain ⟨y, rfl, k84, hM⟩ := hq
  refine kl_aload_n C (pc := 308) (kx_dd d_La_2 7 rfl) rfl rfl ?_
  refine kl_aload_n C (pc := 309) (kx_dd d_La_2 8 rfl) rfl rfl ?_
  refine kl_iload_n C (pc := 310) (kx_dd d_La_2 9 rfl) rfl rfl ?_
  refine kl_iconst C (pc := 311) (v := nI 1) (kx_dd d_La_2 10 rfl) (by decide) ?_
  refine kl_iadd C (pc := 312) (kx_dd d_La_2 11 rfl) ?_
  refine kl_sldn C (pc := 313) (7 * k + 1) hX hb hbg (by rw [nI_add]) (by omega) (by omega) (kx_dd d_La_2 12 rfl) ?_
  refine kl_invV C (pc := 314) (a := 84) (ci := 14) (as := [.int (xs (7 * k + 1))]) (st := [.int y]) (kx_dd d_La_2 13 rfl) ⟨lk_La_22, wi_Mo_end, we_Mo_end⟩ w_Mo_end k84 rfl rfl rfl rfl (Nat.le_of_ble_eq_true rfl) hM (by decide) ⟨by omega, by omega⟩ (fun v2 h2 hq2 => ?_)
  obtain ⟨rfl, hG2⟩ := hq2
  refine kl_icmp_eq C (pc := 317) (tgt := 1785) (kx_dd d_La_2 14 rfl) (by decide) (fun _ => ?_) (fun z => absurd rfl z)
  exact kl_widen (by omega) (by omega) (kont h2 hG2)
theorem la_pass {p : Program} {l : Launch} {e : Env} {s : State} {m : MethodId} {args : Array Value} {below : List Frame} {meth : Method} {c : Code} {g : kx_G} {Q : State → Prop} {b L : Nat} {xs : Nat → Int32} (C : kx_Cx g m_La_law p s m args meth c) (hX : va_X b L xs s g.2.2.2.2) (hb : b < g.2.2.1) (hbg : kx_ad g 1000300 = b) (hL : L ≤ 3584) {k : Nat} {h : kx_Mem} (hk : k < 512) (hq7 : 7 * k + 7 ≤ L) (hG : Glob k h) (kont : ∀ h2, Glob (k + 1) h2 → kl_X p l e s m args below meth c g Q (200 + 3 * (k + 1)) (40000 + 511 * (k + 1)) 1785 [some (.ref 1000300), some (.ref 0), some (.ref 84), some (.int (nI (7 * k)))] [] h2) : kl_X p l e s m args below meth c g Q (200 + 3 * k) (40000 + 511 * k) 322 [some (.ref 1000300), some (.ref 0), some (.ref 84), some (.int (nI (7 * k)))] [] h := by
  refine kl_aload_n C (pc := 322) (kx_dd d_La_3 0 rfl) rfl rfl ?_
  refine kl_aload_n C (pc := 323) (kx_dd d_La_3 1 rfl) rfl rfl ?_
  refine kl_iload_n C (pc := 324) (kx_dd d_La_3 2 rfl) rfl rfl ?_
  refine kl_iconst C (pc := 325) (v := nI 1) (kx_dd d_La_3 3 rfl) (by decide) ?_
  refine kl_iadd C (pc := 326) (kx_dd d_La_3 4 rfl) ?_
  refine kl_sldn C (pc := 327) (7 * k + 1) hX hb hbg (by rw [nI_add]) (by omega) (by omega) (kx_dd d_La_3 5 rfl) ?_
  refine kl_invV C (pc := 328) (a := 0) (ci := 12) (as := [.int (xs (7 * k + 1))]) (kx_dd d_La_3 6 rfl) ⟨lk_La_23, wi_Tc_pass, we_Tc_pass⟩ w_Tc_pass hG.k0 rfl rfl rfl rfl (Nat.le_of_ble_eq_true rfl) (st_pass hk hG (xs (7 * k + 1))) (by decide) ⟨by omega, by omega⟩ (fun v h1 hq => ?_)
  obtain ⟨y, rfl, k84, hM⟩ := hq
  refine kl_aload_n C (pc := 331) (kx_dd d_La_3 7 rfl) rfl rfl ?_
  refine kl_aload_n C (pc := 332) (kx_dd d_La_3 8 rfl) rfl rfl ?_
  refine kl_iload_n C (pc := 333) (kx_dd d_La_3 9 rfl) rfl rfl ?_
  refine kl_iconst C (pc := 334) (v := nI 1) (kx_dd d_La_3 10 rfl) (by decide) ?_
  refine kl_iadd C (pc := 335) (kx_dd d_La_3 11 rfl) ?_
  refine kl_sldn C (pc := 336) (7 * k + 1) hX hb hbg (by rw [nI_add]) (by omega) (by omega) (kx_dd d_La_3 12 rfl) ?_
  refine kl_invV C (pc := 337) (a := 84) (ci := 14) (as := [.int (xs (7 * k + 1))]) (st := [.int y]) (kx_dd d_La_3 13 rfl) ⟨lk_La_26, wi_Mo_pass, we_Mo_pass⟩ w_Mo_pass k84 rfl rfl rfl rfl (Nat.le_of_ble_eq_true rfl) hM (by decide) ⟨by omega, by omega⟩ (fun v2 h2 hq2 => ?_)
  obtain ⟨rfl, hG2⟩ := hq2
  refine kl_icmp_eq C (pc := 340) (tgt := 1785) (kx_dd d_La_3 14 rfl) (by decide) (fun _ => ?_) (fun z => absurd rfl z)
  exact kl_widen (by omega) (by omega) (kont h2 hG2)
theorem la_person {p : Program} {l : Launch} {e : Env} {s : State} {m : MethodId} {args : Array Value} {below : List Frame} {meth : Method} {c : Code} {g : kx_G} {Q : State → Prop} {b L : Nat} {xs : Nat → Int32} (C : kx_Cx g m_La_law p s m args meth c) (hX : va_X b L xs s g.2.2.2.2) (hb : b < g.2.2.1) (hbg : kx_ad g 1000300 = b) (hL : L ≤ 3584) {k : Nat} {h : kx_Mem} (hk : k < 512) (hq7 : 7 * k + 7 ≤ L) (hG : Glob k h) (kont : ∀ h2, Glob (k + 1) h2 → kl_X p l e s m args below meth c g Q (200 + 3 * (k + 1)) (40000 + 511 * (k + 1)) 1785 [some (.ref 1000300), some (.ref 0), some (.ref 84), some (.int (nI (7 * k)))] [] h2) : kl_X p l e s m args below meth c g Q (200 + 3 * k) (40000 + 511 * k) 345 [some (.ref 1000300), some (.ref 0), some (.ref 84), some (.int (nI (7 * k)))] [] h := by
  refine kl_aload_n C (pc := 345) (kx_dd d_La_4 0 rfl) rfl rfl ?_
  refine kl_invV C (pc := 346) (a := 0) (ci := 12) (as := []) (kx_dd d_La_4 1 rfl) ⟨lk_La_27, wi_Tc_person, we_Tc_person⟩ w_Tc_person hG.k0 rfl rfl rfl rfl (Nat.le_of_ble_eq_true rfl) (st_person hk hG) (by decide) ⟨by omega, by omega⟩ (fun v h1 hq => ?_)
  obtain ⟨y, rfl, k84, hM⟩ := hq
  refine kl_aload_n C (pc := 349) (kx_dd d_La_4 2 rfl) rfl rfl ?_
  refine kl_invV C (pc := 350) (a := 84) (ci := 14) (as := []) (st := [.int y]) (kx_dd d_La_4 3 rfl) ⟨lk_La_31, wi_Mo_person, we_Mo_person⟩ w_Mo_person k84 rfl rfl rfl rfl (Nat.le_of_ble_eq_true rfl) hM (by decide) ⟨by omega, by omega⟩ (fun v2 h2 hq2 => ?_)
  obtain ⟨rfl, hG2⟩ := hq2
  refine kl_icmp_eq C (pc := 353) (tgt := 1785) (kx_dd d_La_4 4 rfl) (by decide) (fun _ => ?_) (fun z => absurd rfl z)
  exact kl_widen (by omega) (by omega) (kont h2 hG2)
theorem la_nation {p : Program} {l : Launch} {e : Env} {s : State} {m : MethodId} {args : Array Value} {below : List Frame} {meth : Method} {c : Code} {g : kx_G} {Q : State → Prop} {b L : Nat} {xs : Nat → Int32} (C : kx_Cx g m_La_law p s m args meth c) (hX : va_X b L xs s g.2.2.2.2) (hb : b < g.2.2.1) (hbg : kx_ad g 1000300 = b) (hL : L ≤ 3584) {k : Nat} {h : kx_Mem} (hk : k < 512) (hq7 : 7 * k + 7 ≤ L) (hG : Glob k h) (kont : ∀ h2, Glob (k + 1) h2 → kl_X p l e s m args below meth c g Q (200 + 3 * (k + 1)) (40000 + 511 * (k + 1)) 1785 [some (.ref 1000300), some (.ref 0), some (.ref 84), some (.int (nI (7 * k)))] [] h2) : kl_X p l e s m args below meth c g Q (200 + 3 * k) (40000 + 511 * k) 358 [some (.ref 1000300), some (.ref 0), some (.ref 84), some (.int (nI (7 * k)))] [] h := by
  refine kl_aload_n C (pc := 358) (kx_dd d_La_5 0 rfl) rfl rfl ?_
  refine kl_aload_n C (pc := 359) (kx_dd d_La_5 1 rfl) rfl rfl ?_
  refine kl_iload_n C (pc := 360) (kx_dd d_La_5 2 rfl) rfl rfl ?_
  refine kl_iconst C (pc := 361) (v := nI 1) (kx_dd d_La_5 3 rfl) (by decide) ?_
  refine kl_iadd C (pc := 362) (kx_dd d_La_5 4 rfl) ?_
  refine kl_sldn C (pc := 363) (7 * k + 1) hX hb hbg (by rw [nI_add]) (by omega) (by omega) (kx_dd d_La_5 5 rfl) ?_
  refine kl_aload_n C (pc := 364) (kx_dd d_La_5 6 rfl) rfl rfl ?_
  refine kl_iload_n C (pc := 365) (kx_dd d_La_5 7 rfl) rfl rfl ?_
  refine kl_iconst C (pc := 366) (v := nI 2) (kx_dd d_La_5 8 rfl) (by decide) ?_
  refine kl_iadd C (pc := 367) (kx_dd d_La_5 9 rfl) ?_
  refine kl_sldn C (pc := 368) (7 * k + 2) hX hb hbg (by rw [nI_add]) (by omega) (by omega) (kx_dd d_La_5 10 rfl) ?_
  refine kl_aload_n C (pc := 369) (kx_dd d_La_5 11 rfl) rfl rfl ?_
  refine kl_iload_n C (pc := 370) (kx_dd d_La_5 12 rfl) rfl rfl ?_
  refine kl_iconst C (pc := 371) (v := nI 3) (kx_dd d_La_5 13 rfl) (by decide) ?_
  refine kl_iadd C (pc := 372) (kx_dd d_La_5 14 rfl) ?_
  refine kl_sldn C (pc := 373) (7 * k + 3) hX hb hbg (by rw [nI_add]) (by omega) (by omega) (kx_dd d_La_5 15 rfl) ?_
  refine kl_invV C (pc := 374) (a := 0) (ci := 12) (as := [.int (xs (7 * k + 1)), .int (xs (7 * k + 2)), .int (xs (7 * k + 3))]) (kx_dd d_La_5 16 rfl) ⟨lk_La_32, wi_Tc_nation, we_Tc_nation⟩ w_Tc_nation hG.k0 rfl rfl rfl rfl (Nat.le_of_ble_eq_true rfl) (st_nation hk hG (xs (7 * k + 1)) (xs (7 * k + 2)) (xs (7 * k + 3))) (by decide) ⟨by omega, by omega⟩ (fun v h1 hq => ?_)
  obtain ⟨y, rfl, k84, hM⟩ := hq
  refine kl_aload_n C (pc := 377) (kx_dd d_La_5 17 rfl) rfl rfl ?_
  refine kl_aload_n C (pc := 378) (kx_dd d_La_5 18 rfl) rfl rfl ?_
  refine kl_iload_n C (pc := 379) (kx_dd d_La_5 19 rfl) rfl rfl ?_
  refine kl_iconst C (pc := 380) (v := nI 1) (kx_dd d_La_5 20 rfl) (by decide) ?_
  refine kl_iadd C (pc := 381) (kx_dd d_La_5 21 rfl) ?_
  refine kl_sldn C (pc := 382) (7 * k + 1) hX hb hbg (by rw [nI_add]) (by omega) (by omega) (kx_dd d_La_5 22 rfl) ?_
  refine kl_aload_n C (pc := 383) (kx_dd d_La_5 23 rfl) rfl rfl ?_
  refine kl_iload_n C (pc := 384) (kx_dd d_La_5 24 rfl) rfl rfl ?_
  refine kl_iconst C (pc := 385) (v := nI 2) (kx_dd d_La_5 25 rfl) (by decide) ?_
  refine kl_iadd C (pc := 386) (kx_dd d_La_5 26 rfl) ?_
  refine kl_sldn C (pc := 387) (7 * k + 2) hX hb hbg (by rw [nI_add]) (by omega) (by omega) (kx_dd d_La_5 27 rfl) ?_
  refine kl_aload_n C (pc := 388) (kx_dd d_La_5 28 rfl) rfl rfl ?_
  refine kl_iload_n C (pc := 389) (kx_dd d_La_5 29 rfl) rfl rfl ?_
  refine kl_iconst C (pc := 390) (v := nI 3) (kx_dd d_La_5 30 rfl) (by decide) ?_
  refine kl_iadd C (pc := 391) (kx_dd d_La_5 31 rfl) ?_
  refine kl_sldn C (pc := 392) (7 * k + 3) hX hb hbg (by rw [nI_add]) (by omega) (by omega) (kx_dd d_La_5 32 rfl) ?_
  refine kl_invV C (pc := 393) (a := 84) (ci := 14) (as := [.int (xs (7 * k + 1)), .int (xs (7 * k + 2)), .int (xs (7 * k + 3))]) (st := [.int y]) (kx_dd d_La_5 33 rfl) ⟨lk_La_36, wi_Mo_nation, we_Mo_nation⟩ w_Mo_nation k84 rfl rfl rfl rfl (Nat.le_of_ble_eq_true rfl) hM (by decide) ⟨by omega, by omega⟩ (fun v2 h2 hq2 => ?_)
  obtain ⟨rfl, hG2⟩ := hq2
  refine kl_icmp_eq C (pc := 396) (tgt := 1785) (kx_dd d_La_5 34 rfl) (by decide) (fun _ => ?_) (fun z => absurd rfl z)
  exact kl_widen (by omega) (by omega) (kont h2 hG2)
theorem la_dead {p : Program} {l : Launch} {e : Env} {s : State} {m : MethodId} {args : Array Value} {below : List Frame} {meth : Method} {c : Code} {g : kx_G} {Q : State → Prop} {b L : Nat} {xs : Nat → Int32} (C : kx_Cx g m_La_law p s m args meth c) (hX : va_X b L xs s g.2.2.2.2) (hb : b < g.2.2.1) (hbg : kx_ad g 1000300 = b) (hL : L ≤ 3584) {k : Nat} {h : kx_Mem} (hk : k < 512) (hq7 : 7 * k + 7 ≤ L) (hG : Glob k h) (kont : ∀ h2, Glob (k + 1) h2 → kl_X p l e s m args below meth c g Q (200 + 3 * (k + 1)) (40000 + 511 * (k + 1)) 1785 [some (.ref 1000300), some (.ref 0), some (.ref 84), some (.int (nI (7 * k)))] [] h2) : kl_X p l e s m args below meth c g Q (200 + 3 * k) (40000 + 511 * k) 401 [some (.ref 1000300), some (.ref 0), some (.ref 84), some (.int (nI (7 * k)))] [] h := by
  refine kl_aload_n C (pc := 401) (kx_dd d_La_6 0 rfl) rfl rfl ?_
  refine kl_aload_n C (pc := 402) (kx_dd d_La_6 1 rfl) rfl rfl ?_
  refine kl_iload_n C (pc := 403) (kx_dd d_La_6 2 rfl) rfl rfl ?_
  refine kl_iconst C (pc := 404) (v := nI 1) (kx_dd d_La_6 3 rfl) (by decide) ?_
  refine kl_iadd C (pc := 405) (kx_dd d_La_6 4 rfl) ?_
  refine kl_sldn C (pc := 406) (7 * k + 1) hX hb hbg (by rw [nI_add]) (by omega) (by omega) (kx_dd d_La_6 5 rfl) ?_
  refine kl_aload_n C (pc := 407) (kx_dd d_La_6 6 rfl) rfl rfl ?_
  refine kl_iload_n C (pc := 408) (kx_dd d_La_6 7 rfl) rfl rfl ?_
  refine kl_iconst C (pc := 409) (v := nI 2) (kx_dd d_La_6 8 rfl) (by decide) ?_
  refine kl_iadd C (pc := 410) (kx_dd d_La_6 9 rfl) ?_
  refine kl_sldn C (pc := 411) (7 * k + 2) hX hb hbg (by rw [nI_add]) (by omega) (by omega) (kx_dd d_La_6 10 rfl) ?_
  refine kl_invV C (pc := 412) (a := 0) (ci := 12) (as := [.int (xs (7 * k + 1)), .int (xs (7 * k + 2))]) (kx_dd d_La_6 11 rfl) ⟨lk_La_37, wi_Tc_dead, we_Tc_dead⟩ w_Tc_dead hG.k0 rfl rfl rfl rfl (Nat.le_of_ble_eq_true rfl) (st_dead hk hG (xs (7 * k + 1)) (xs (7 * k + 2))) (by decide) ⟨by omega, by omega⟩ (fun v h1 hq => ?_)
  obtain ⟨y, rfl, k84, hM⟩ := hq
  refine kl_aload_n C (pc := 415) (kx_dd d_La_6 12 rfl) rfl rfl ?_
  refine kl_aload_n C (pc := 416) (kx_dd d_La_6 13 rfl) rfl rfl ?_
  refine kl_iload_n C (pc := 417) (kx_dd d_La_6 14 rfl) rfl rfl ?_
  refine kl_iconst C (pc := 418) (v := nI 1) (kx_dd d_La_6 15 rfl) (by decide) ?_
  refine kl_iadd C (pc := 419) (kx_dd d_La_6 16 rfl) ?_
  refine kl_sldn C (pc := 420) (7 * k + 1) hX hb hbg (by rw [nI_add]) (by omega) (by omega) (kx_dd d_La_6 17 rfl) ?_
  refine kl_aload_n C (pc := 421) (kx_dd d_La_6 18 rfl) rfl rfl ?_
  refine kl_iload_n C (pc := 422) (kx_dd d_La_6 19 rfl) rfl rfl ?_
  refine kl_iconst C (pc := 423) (v := nI 2) (kx_dd d_La_6 20 rfl) (by decide) ?_
  refine kl_iadd C (pc := 424) (kx_dd d_La_6 21 rfl) ?_
  refine kl_sldn C (pc := 425) (7 * k + 2) hX hb hbg (by rw [nI_add]) (by omega) (by omega) (kx_dd d_La_6 22 rfl) ?_
  refine kl_invV C (pc := 426) (a := 84) (ci := 14) (as := [.int (xs (7 * k + 1)), .int (xs (7 * k + 2))]) (st := [.int y]) (kx_dd d_La_6 23 rfl) ⟨lk_La_41, wi_Mo_dead, we_Mo_dead⟩ w_Mo_dead k84 rfl rfl rfl rfl (Nat.le_of_ble_eq_true rfl) hM (by decide) ⟨by omega, by omega⟩ (fun v2 h2 hq2 => ?_)
  obtain ⟨rfl, hG2⟩ := hq2
  refine kl_icmp_eq C (pc := 429) (tgt := 1785) (kx_dd d_La_6 24 rfl) (by decide) (fun _ => ?_) (fun z => absurd rfl z)
  exact kl_widen (by omega) (by omega) (kont h2 hG2)
theorem la_heir {p : Program} {l : Launch} {e : Env} {s : State} {m : MethodId} {args : Array Value} {below : List Frame} {meth : Method} {c : Code} {g : kx_G} {Q : State → Prop} {b L : Nat} {xs : Nat → Int32} (C : kx_Cx g m_La_law p s m args meth c) (hX : va_X b L xs s g.2.2.2.2) (hb : b < g.2.2.1) (hbg : kx_ad g 1000300 = b) (hL : L ≤ 3584) {k : Nat} {h : kx_Mem} (hk : k < 512) (hq7 : 7 * k + 7 ≤ L) (hG : Glob k h) (kont : ∀ h2, Glob (k + 1) h2 → kl_X p l e s m args below meth c g Q (200 + 3 * (k + 1)) (40000 + 511 * (k + 1)) 1785 [some (.ref 1000300), some (.ref 0), some (.ref 84), some (.int (nI (7 * k)))] [] h2) : kl_X p l e s m args below meth c g Q (200 + 3 * k) (40000 + 511 * k) 434 [some (.ref 1000300), some (.ref 0), some (.ref 84), some (.int (nI (7 * k)))] [] h := by
  refine kl_aload_n C (pc := 434) (kx_dd d_La_7 0 rfl) rfl rfl ?_
  refine kl_aload_n C (pc := 435) (kx_dd d_La_7 1 rfl) rfl rfl ?_
  refine kl_iload_n C (pc := 436) (kx_dd d_La_7 2 rfl) rfl rfl ?_
  refine kl_iconst C (pc := 437) (v := nI 1) (kx_dd d_La_7 3 rfl) (by decide) ?_
  refine kl_iadd C (pc := 438) (kx_dd d_La_7 4 rfl) ?_
  refine kl_sldn C (pc := 439) (7 * k + 1) hX hb hbg (by rw [nI_add]) (by omega) (by omega) (kx_dd d_La_7 5 rfl) ?_
  refine kl_aload_n C (pc := 440) (kx_dd d_La_7 6 rfl) rfl rfl ?_
  refine kl_iload_n C (pc := 441) (kx_dd d_La_7 7 rfl) rfl rfl ?_
  refine kl_iconst C (pc := 442) (v := nI 2) (kx_dd d_La_7 8 rfl) (by decide) ?_
  refine kl_iadd C (pc := 443) (kx_dd d_La_7 9 rfl) ?_
  refine kl_sldn C (pc := 444) (7 * k + 2) hX hb hbg (by rw [nI_add]) (by omega) (by omega) (kx_dd d_La_7 10 rfl) ?_
  refine kl_aload_n C (pc := 445) (kx_dd d_La_7 11 rfl) rfl rfl ?_
  refine kl_iload_n C (pc := 446) (kx_dd d_La_7 12 rfl) rfl rfl ?_
  refine kl_iconst C (pc := 447) (v := nI 3) (kx_dd d_La_7 13 rfl) (by decide) ?_
  refine kl_iadd C (pc := 448) (kx_dd d_La_7 14 rfl) ?_
  refine kl_sldn C (pc := 449) (7 * k + 3) hX hb hbg (by rw [nI_add]) (by omega) (by omega) (kx_dd d_La_7 15 rfl) ?_
  refine kl_invV C (pc := 450) (a := 0) (ci := 12) (as := [.int (xs (7 * k + 1)), .int (xs (7 * k + 2)), .int (xs (7 * k + 3))]) (kx_dd d_La_7 16 rfl) ⟨lk_La_42, wi_Tc_heir, we_Tc_heir⟩ w_Tc_heir hG.k0 rfl rfl rfl rfl (Nat.le_of_ble_eq_true rfl) (st_heir hk hG (xs (7 * k + 1)) (xs (7 * k + 2)) (xs (7 * k + 3))) (by decide) ⟨by omega, by omega⟩ (fun v h1 hq => ?_)
  obtain ⟨y, rfl, k84, hM⟩ := hq
  refine kl_aload_n C (pc := 453) (kx_dd d_La_7 17 rfl) rfl rfl ?_
  refine kl_aload_n C (pc := 454) (kx_dd d_La_7 18 rfl) rfl rfl ?_
  refine kl_iload_n C (pc := 455) (kx_dd d_La_7 19 rfl) rfl rfl ?_
  refine kl_iconst C (pc := 456) (v := nI 1) (kx_dd d_La_7 20 rfl) (by decide) ?_
  refine kl_iadd C (pc := 457) (kx_dd d_La_7 21 rfl) ?_
  refine kl_sldn C (pc := 458) (7 * k + 1) hX hb hbg (by rw [nI_add]) (by omega) (by omega) (kx_dd d_La_7 22 rfl) ?_
  refine kl_aload_n C (pc := 459) (kx_dd d_La_7 23 rfl) rfl rfl ?_
  refine kl_iload_n C (pc := 460) (kx_dd d_La_7 24 rfl) rfl rfl ?_
  refine kl_iconst C (pc := 461) (v := nI 2) (kx_dd d_La_7 25 rfl) (by decide) ?_
  refine kl_iadd C (pc := 462) (kx_dd d_La_7 26 rfl) ?_
  refine kl_sldn C (pc := 463) (7 * k + 2) hX hb hbg (by rw [nI_add]) (by omega) (by omega) (kx_dd d_La_7 27 rfl) ?_
  refine kl_aload_n C (pc := 464) (kx_dd d_La_7 28 rfl) rfl rfl ?_
  refine kl_iload_n C (pc := 465) (kx_dd d_La_7 29 rfl) rfl rfl ?_
  refine kl_iconst C (pc := 466) (v := nI 3) (kx_dd d_La_7 30 rfl) (by decide) ?_
  refine kl_iadd C (pc := 467) (kx_dd d_La_7 31 rfl) ?_
  refine kl_sldn C (pc := 468) (7 * k + 3) hX hb hbg (by rw [nI_add]) (by omega) (by omega) (kx_dd d_La_7 32 rfl) ?_
  refine kl_invV C (pc := 469) (a := 84) (ci := 14) (as := [.int (xs (7 * k + 1)), .int (xs (7 * k + 2)), .int (xs (7 * k + 3))]) (st := [.int y]) (kx_dd d_La_7 33 rfl) ⟨lk_La_45, wi_Mo_heir, we_Mo_heir⟩ w_Mo_heir k84 rfl rfl rfl rfl (Nat.le_of_ble_eq_true rfl) hM (by decide) ⟨by omega, by omega⟩ (fun v2 h2 hq2 => ?_)
  obtain ⟨rfl, hG2⟩ := hq2
  refine kl_icmp_eq C (pc := 472) (tgt := 1785) (kx_dd d_La_7 34 rfl) (by decide) (fun _ => ?_) (fun z => absurd rfl z)
  exact kl_widen (by omega) (by omega) (kont h2 hG2)
theorem la_nationOn {p : Program} {l : Launch} {e : Env} {s : State} {m : MethodId} {args : Array Value} {below : List Frame} {meth : Method} {c : Code} {g : kx_G} {Q : State → Prop} {b L : Nat} {xs : Nat → Int32} (C : kx_Cx g m_La_law p s m args meth c) (hX : va_X b L xs s g.2.2.2.2) (hb : b < g.2.2.1) (hbg : kx_ad g 1000300 = b) (hL : L ≤ 3584) {k : Nat} {h : kx_Mem} (hk : k < 512) (hq7 : 7 * k + 7 ≤ L) (hG : Glob k h) (kont : ∀ h2, Glob (k + 1) h2 → kl_X p l e s m args below meth c g Q (200 + 3 * (k + 1)) (40000 + 511 * (k + 1)) 1785 [some (.ref 1000300), some (.ref 0), some (.ref 84), some (.int (nI (7 * k)))] [] h2) : kl_X p l e s m args below meth c g Q (200 + 3 * k) (40000 + 511 * k) 477 [some (.ref 1000300), some (.ref 0), some (.ref 84), some (.int (nI (7 * k)))] [] h := by
  refine kl_aload_n C (pc := 477) (kx_dd d_La_8 0 rfl) rfl rfl ?_
  refine kl_aload_n C (pc := 478) (kx_dd d_La_8 1 rfl) rfl rfl ?_
  refine kl_iload_n C (pc := 479) (kx_dd d_La_8 2 rfl) rfl rfl ?_
  refine kl_iconst C (pc := 480) (v := nI 1) (kx_dd d_La_8 3 rfl) (by decide) ?_
  refine kl_iadd C (pc := 481) (kx_dd d_La_8 4 rfl) ?_
  refine kl_sldn C (pc := 482) (7 * k + 1) hX hb hbg (by rw [nI_add]) (by omega) (by omega) (kx_dd d_La_8 5 rfl) ?_
  refine kl_aload_n C (pc := 483) (kx_dd d_La_8 6 rfl) rfl rfl ?_
  refine kl_iload_n C (pc := 484) (kx_dd d_La_8 7 rfl) rfl rfl ?_
  refine kl_iconst C (pc := 485) (v := nI 2) (kx_dd d_La_8 8 rfl) (by decide) ?_
  refine kl_iadd C (pc := 486) (kx_dd d_La_8 9 rfl) ?_
  refine kl_sldn C (pc := 487) (7 * k + 2) hX hb hbg (by rw [nI_add]) (by omega) (by omega) (kx_dd d_La_8 10 rfl) ?_
  refine kl_aload_n C (pc := 488) (kx_dd d_La_8 11 rfl) rfl rfl ?_
  refine kl_iload_n C (pc := 489) (kx_dd d_La_8 12 rfl) rfl rfl ?_
  refine kl_iconst C (pc := 490) (v := nI 3) (kx_dd d_La_8 13 rfl) (by decide) ?_
  refine kl_iadd C (pc := 491) (kx_dd d_La_8 14 rfl) ?_
  refine kl_sldn C (pc := 492) (7 * k + 3) hX hb hbg (by rw [nI_add]) (by omega) (by omega) (kx_dd d_La_8 15 rfl) ?_
  refine kl_invV C (pc := 493) (a := 0) (ci := 12) (as := [.int (xs (7 * k + 1)), .int (xs (7 * k + 2)), .int (xs (7 * k + 3))]) (kx_dd d_La_8 16 rfl) ⟨lk_La_46, wi_Tc_nationOn, we_Tc_nationOn⟩ w_Tc_nationOn hG.k0 rfl rfl rfl rfl (Nat.le_of_ble_eq_true rfl) (st_nationOn hk hG (xs (7 * k + 1)) (xs (7 * k + 2)) (xs (7 * k + 3))) (by decide) ⟨by omega, by omega⟩ (fun v h1 hq => ?_)
  obtain ⟨y, rfl, k84, hM⟩ := hq
  refine kl_aload_n C (pc := 496) (kx_dd d_La_8 17 rfl) rfl rfl ?_
  refine kl_aload_n C (pc := 497) (kx_dd d_La_8 18 rfl) rfl rfl ?_
  refine kl_iload_n C (pc := 498) (kx_dd d_La_8 19 rfl) rfl rfl ?_
  refine kl_iconst C (pc := 499) (v := nI 1) (kx_dd d_La_8 20 rfl) (by decide) ?_
  refine kl_iadd C (pc := 500) (kx_dd d_La_8 21 rfl) ?_
  refine kl_sldn C (pc := 501) (7 * k + 1) hX hb hbg (by rw [nI_add]) (by omega) (by omega) (kx_dd d_La_8 22 rfl) ?_
  refine kl_aload_n C (pc := 502) (kx_dd d_La_8 23 rfl) rfl rfl ?_
  refine kl_iload_n C (pc := 503) (kx_dd d_La_8 24 rfl) rfl rfl ?_
  refine kl_iconst C (pc := 504) (v := nI 2) (kx_dd d_La_8 25 rfl) (by decide) ?_
  refine kl_iadd C (pc := 505) (kx_dd d_La_8 26 rfl) ?_
  refine kl_sldn C (pc := 506) (7 * k + 2) hX hb hbg (by rw [nI_add]) (by omega) (by omega) (kx_dd d_La_8 27 rfl) ?_
  refine kl_aload_n C (pc := 507) (kx_dd d_La_8 28 rfl) rfl rfl ?_
  refine kl_iload_n C (pc := 508) (kx_dd d_La_8 29 rfl) rfl rfl ?_
  refine kl_iconst C (pc := 509) (v := nI 3) (kx_dd d_La_8 30 rfl) (by decide) ?_
  refine kl_iadd C (pc := 510) (kx_dd d_La_8 31 rfl) ?_
  refine kl_sldn C (pc := 511) (7 * k + 3) hX hb hbg (by rw [nI_add]) (by omega) (by omega) (kx_dd d_La_8 32 rfl) ?_
  refine kl_invV C (pc := 512) (a := 84) (ci := 14) (as := [.int (xs (7 * k + 1)), .int (xs (7 * k + 2)), .int (xs (7 * k + 3))]) (st := [.int y]) (kx_dd d_La_8 33 rfl) ⟨lk_La_49, wi_Mo_nationOn, we_Mo_nationOn⟩ w_Mo_nationOn k84 rfl rfl rfl rfl (Nat.le_of_ble_eq_true rfl) hM (by decide) ⟨by omega, by omega⟩ (fun v2 h2 hq2 => ?_)
  obtain ⟨rfl, hG2⟩ := hq2
  refine kl_icmp_eq C (pc := 515) (tgt := 1785) (kx_dd d_La_8 34 rfl) (by decide) (fun _ => ?_) (fun z => absurd rfl z)
  exact kl_widen (by omega) (by omega) (kont h2 hG2)
theorem la_deadOn {p : Program} {l : Launch} {e : Env} {s : State} {m : MethodId} {args : Array Value} {below : List Frame} {meth : Method} {c : Code} {g : kx_G} {Q : State → Prop} {b L : Nat} {xs : Nat → Int32} (C : kx_Cx g m_La_law p s m args meth c) (hX : va_X b L xs s g.2.2.2.2) (hb : b < g.2.2.1) (hbg : kx_ad g 1000300 = b) (hL : L ≤ 3584) {k : Nat} {h : kx_Mem} (hk : k < 512) (hq7 : 7 * k + 7 ≤ L) (hG : Glob k h) (kont : ∀ h2, Glob (k + 1) h2 → kl_X p l e s m args below meth c g Q (200 + 3 * (k + 1)) (40000 + 511 * (k + 1)) 1785 [some (.ref 1000300), some (.ref 0), some (.ref 84), some (.int (nI (7 * k)))] [] h2) : kl_X p l e s m args below meth c g Q (200 + 3 * k) (40000 + 511 * k) 520 [some (.ref 1000300), some (.ref 0), some (.ref 84), some (.int (nI (7 * k)))] [] h := by
  refine kl_aload_n C (pc := 520) (kx_dd d_La_9 0 rfl) rfl rfl ?_
  refine kl_aload_n C (pc := 521) (kx_dd d_La_9 1 rfl) rfl rfl ?_
  refine kl_iload_n C (pc := 522) (kx_dd d_La_9 2 rfl) rfl rfl ?_
  refine kl_iconst C (pc := 523) (v := nI 1) (kx_dd d_La_9 3 rfl) (by decide) ?_
  refine kl_iadd C (pc := 524) (kx_dd d_La_9 4 rfl) ?_
  refine kl_sldn C (pc := 525) (7 * k + 1) hX hb hbg (by rw [nI_add]) (by omega) (by omega) (kx_dd d_La_9 5 rfl) ?_
  refine kl_aload_n C (pc := 526) (kx_dd d_La_9 6 rfl) rfl rfl ?_
  refine kl_iload_n C (pc := 527) (kx_dd d_La_9 7 rfl) rfl rfl ?_
  refine kl_iconst C (pc := 528) (v := nI 2) (kx_dd d_La_9 8 rfl) (by decide) ?_
  refine kl_iadd C (pc := 529) (kx_dd d_La_9 9 rfl) ?_
  refine kl_sldn C (pc := 530) (7 * k + 2) hX hb hbg (by rw [nI_add]) (by omega) (by omega) (kx_dd d_La_9 10 rfl) ?_
  refine kl_aload_n C (pc := 531) (kx_dd d_La_9 11 rfl) rfl rfl ?_
  refine kl_iload_n C (pc := 532) (kx_dd d_La_9 12 rfl) rfl rfl ?_
  refine kl_iconst C (pc := 533) (v := nI 3) (kx_dd d_La_9 13 rfl) (by decide) ?_
  refine kl_iadd C (pc := 534) (kx_dd d_La_9 14 rfl) ?_
  refine kl_sldn C (pc := 535) (7 * k + 3) hX hb hbg (by rw [nI_add]) (by omega) (by omega) (kx_dd d_La_9 15 rfl) ?_
  refine kl_invV C (pc := 536) (a := 0) (ci := 12) (as := [.int (xs (7 * k + 1)), .int (xs (7 * k + 2)), .int (xs (7 * k + 3))]) (kx_dd d_La_9 16 rfl) ⟨lk_La_50, wi_Tc_deadOn, we_Tc_deadOn⟩ w_Tc_deadOn hG.k0 rfl rfl rfl rfl (Nat.le_of_ble_eq_true rfl) (st_deadOn hk hG (xs (7 * k + 1)) (xs (7 * k + 2)) (xs (7 * k + 3))) (by decide) ⟨by omega, by omega⟩ (fun v h1 hq => ?_)
  obtain ⟨y, rfl, k84, hM⟩ := hq
  refine kl_aload_n C (pc := 539) (kx_dd d_La_9 17 rfl) rfl rfl ?_
  refine kl_aload_n C (pc := 540) (kx_dd d_La_9 18 rfl) rfl rfl ?_
  refine kl_iload_n C (pc := 541) (kx_dd d_La_9 19 rfl) rfl rfl ?_
  refine kl_iconst C (pc := 542) (v := nI 1) (kx_dd d_La_9 20 rfl) (by decide) ?_
  refine kl_iadd C (pc := 543) (kx_dd d_La_9 21 rfl) ?_
  refine kl_sldn C (pc := 544) (7 * k + 1) hX hb hbg (by rw [nI_add]) (by omega) (by omega) (kx_dd d_La_9 22 rfl) ?_
  refine kl_aload_n C (pc := 545) (kx_dd d_La_9 23 rfl) rfl rfl ?_
  refine kl_iload_n C (pc := 546) (kx_dd d_La_9 24 rfl) rfl rfl ?_
  refine kl_iconst C (pc := 547) (v := nI 2) (kx_dd d_La_9 25 rfl) (by decide) ?_
  refine kl_iadd C (pc := 548) (kx_dd d_La_9 26 rfl) ?_
  refine kl_sldn C (pc := 549) (7 * k + 2) hX hb hbg (by rw [nI_add]) (by omega) (by omega) (kx_dd d_La_9 27 rfl) ?_
  refine kl_aload_n C (pc := 550) (kx_dd d_La_9 28 rfl) rfl rfl ?_
  refine kl_iload_n C (pc := 551) (kx_dd d_La_9 29 rfl) rfl rfl ?_
  refine kl_iconst C (pc := 552) (v := nI 3) (kx_dd d_La_9 30 rfl) (by decide) ?_
  refine kl_iadd C (pc := 553) (kx_dd d_La_9 31 rfl) ?_
  refine kl_sldn C (pc := 554) (7 * k + 3) hX hb hbg (by rw [nI_add]) (by omega) (by omega) (kx_dd d_La_9 32 rfl) ?_
  refine kl_invV C (pc := 555) (a := 84) (ci := 14) (as := [.int (xs (7 * k + 1)), .int (xs (7 * k + 2)), .int (xs (7 * k + 3))]) (st := [.int y]) (kx_dd d_La_9 33 rfl) ⟨lk_La_53, wi_Mo_deadOn, we_Mo_deadOn⟩ w_Mo_deadOn k84 rfl rfl rfl rfl (Nat.le_of_ble_eq_true rfl) hM (by decide) ⟨by omega, by omega⟩ (fun v2 h2 hq2 => ?_)
  obtain ⟨rfl, hG2⟩ := hq2
  refine kl_icmp_eq C (pc := 558) (tgt := 1785) (kx_dd d_La_9 34 rfl) (by decide) (fun _ => ?_) (fun z => absurd rfl z)
  exact kl_widen (by omega) (by omega) (kont h2 hG2)
theorem la_heirOn {p : Program} {l : Launch} {e : Env} {s : State} {m : MethodId} {args : Array Value} {below : List Frame} {meth : Method} {c : Code} {g : kx_G} {Q : State → Prop} {b L : Nat} {xs : Nat → Int32} (C : kx_Cx g m_La_law p s m args meth c) (hX : va_X b L xs s g.2.2.2.2) (hb : b < g.2.2.1) (hbg : kx_ad g 1000300 = b) (hL : L ≤ 3584) {k : Nat} {h : kx_Mem} (hk : k < 512) (hq7 : 7 * k + 7 ≤ L) (hG : Glob k h) (kont : ∀ h2, Glob (k + 1) h2 → kl_X p l e s m args below meth c g Q (200 + 3 * (k + 1)) (40000 + 511 * (k + 1)) 1785 [some (.ref 1000300), some (.ref 0), some (.ref 84), some (.int (nI (7 * k)))] [] h2) : kl_X p l e s m args below meth c g Q (200 + 3 * k) (40000 + 511 * k) 563 [some (.ref 1000300), some (.ref 0), some (.ref 84), some (.int (nI (7 * k)))] [] h := by
  refine kl_aload_n C (pc := 563) (kx_dd d_La_10 0 rfl) rfl rfl ?_
  refine kl_aload_n C (pc := 564) (kx_dd d_La_10 1 rfl) rfl rfl ?_
  refine kl_iload_n C (pc := 565) (kx_dd d_La_10 2 rfl) rfl rfl ?_
  refine kl_iconst C (pc := 566) (v := nI 1) (kx_dd d_La_10 3 rfl) (by decide) ?_
  refine kl_iadd C (pc := 567) (kx_dd d_La_10 4 rfl) ?_
  refine kl_sldn C (pc := 568) (7 * k + 1) hX hb hbg (by rw [nI_add]) (by omega) (by omega) (kx_dd d_La_10 5 rfl) ?_
  refine kl_aload_n C (pc := 569) (kx_dd d_La_10 6 rfl) rfl rfl ?_
  refine kl_iload_n C (pc := 570) (kx_dd d_La_10 7 rfl) rfl rfl ?_
  refine kl_iconst C (pc := 571) (v := nI 2) (kx_dd d_La_10 8 rfl) (by decide) ?_
  refine kl_iadd C (pc := 572) (kx_dd d_La_10 9 rfl) ?_
  refine kl_sldn C (pc := 573) (7 * k + 2) hX hb hbg (by rw [nI_add]) (by omega) (by omega) (kx_dd d_La_10 10 rfl) ?_
  refine kl_aload_n C (pc := 574) (kx_dd d_La_10 11 rfl) rfl rfl ?_
  refine kl_iload_n C (pc := 575) (kx_dd d_La_10 12 rfl) rfl rfl ?_
  refine kl_iconst C (pc := 576) (v := nI 3) (kx_dd d_La_10 13 rfl) (by decide) ?_
  refine kl_iadd C (pc := 577) (kx_dd d_La_10 14 rfl) ?_
  refine kl_sldn C (pc := 578) (7 * k + 3) hX hb hbg (by rw [nI_add]) (by omega) (by omega) (kx_dd d_La_10 15 rfl) ?_
  refine kl_aload_n C (pc := 579) (kx_dd d_La_10 16 rfl) rfl rfl ?_
  refine kl_iload_n C (pc := 580) (kx_dd d_La_10 17 rfl) rfl rfl ?_
  refine kl_iconst C (pc := 581) (v := nI 4) (kx_dd d_La_10 18 rfl) (by decide) ?_
  refine kl_iadd C (pc := 582) (kx_dd d_La_10 19 rfl) ?_
  refine kl_sldn C (pc := 583) (7 * k + 4) hX hb hbg (by rw [nI_add]) (by omega) (by omega) (kx_dd d_La_10 20 rfl) ?_
  refine kl_invV C (pc := 584) (a := 0) (ci := 12) (as := [.int (xs (7 * k + 1)), .int (xs (7 * k + 2)), .int (xs (7 * k + 3)), .int (xs (7 * k + 4))]) (kx_dd d_La_10 21 rfl) ⟨lk_La_54, wi_Tc_heirOn, we_Tc_heirOn⟩ w_Tc_heirOn hG.k0 rfl rfl rfl rfl (Nat.le_of_ble_eq_true rfl) (st_heirOn hk hG (xs (7 * k + 1)) (xs (7 * k + 2)) (xs (7 * k + 3)) (xs (7 * k + 4))) (by decide) ⟨by omega, by omega⟩ (fun v h1 hq => ?_)
  obtain ⟨y, rfl, k84, hM⟩ := hq
  refine kl_aload_n C (pc := 587) (kx_dd d_La_10 22 rfl) rfl rfl ?_
  refine kl_aload_n C (pc := 588) (kx_dd d_La_10 23 rfl) rfl rfl ?_
  refine kl_iload_n C (pc := 589) (kx_dd d_La_10 24 rfl) rfl rfl ?_
  refine kl_iconst C (pc := 590) (v := nI 1) (kx_dd d_La_10 25 rfl) (by decide) ?_
  refine kl_iadd C (pc := 591) (kx_dd d_La_10 26 rfl) ?_
  refine kl_sldn C (pc := 592) (7 * k + 1) hX hb hbg (by rw [nI_add]) (by omega) (by omega) (kx_dd d_La_10 27 rfl) ?_
  refine kl_aload_n C (pc := 593) (kx_dd d_La_10 28 rfl) rfl rfl ?_
  refine kl_iload_n C (pc := 594) (kx_dd d_La_10 29 rfl) rfl rfl ?_
  refine kl_iconst C (pc := 595) (v := nI 2) (kx_dd d_La_10 30 rfl) (by decide) ?_
  refine kl_iadd C (pc := 596) (kx_dd d_La_10 31 rfl) ?_
  refine kl_sldn C (pc := 597) (7 * k + 2) hX hb hbg (by rw [nI_add]) (by omega) (by omega) (kx_dd d_La_10 32 rfl) ?_
  refine kl_aload_n C (pc := 598) (kx_dd d_La_10 33 rfl) rfl rfl ?_
  refine kl_iload_n C (pc := 599) (kx_dd d_La_10 34 rfl) rfl rfl ?_
  refine kl_iconst C (pc := 600) (v := nI 3) (kx_dd d_La_10 35 rfl) (by decide) ?_
  refine kl_iadd C (pc := 601) (kx_dd d_La_10 36 rfl) ?_
  refine kl_sldn C (pc := 602) (7 * k + 3) hX hb hbg (by rw [nI_add]) (by omega) (by omega) (kx_dd d_La_10 37 rfl) ?_
  refine kl_aload_n C (pc := 603) (kx_dd d_La_10 38 rfl) rfl rfl ?_
  refine kl_iload_n C (pc := 604) (kx_dd d_La_10 39 rfl) rfl rfl ?_
  refine kl_iconst C (pc := 605) (v := nI 4) (kx_dd d_La_10 40 rfl) (by decide) ?_
  refine kl_iadd C (pc := 606) (kx_dd d_La_10 41 rfl) ?_
  refine kl_sldn C (pc := 607) (7 * k + 4) hX hb hbg (by rw [nI_add]) (by omega) (by omega) (kx_dd d_La_10 42 rfl) ?_
  refine kl_invV C (pc := 608) (a := 84) (ci := 14) (as := [.int (xs (7 * k + 1)), .int (xs (7 * k + 2)), .int (xs (7 * k + 3)), .int (xs (7 * k + 4))]) (st := [.int y]) (kx_dd d_La_10 43 rfl) ⟨lk_La_58, wi_Mo_heirOn, we_Mo_heirOn⟩ w_Mo_heirOn k84 rfl rfl rfl rfl (Nat.le_of_ble_eq_true rfl) hM (by decide) ⟨by omega, by omega⟩ (fun v2 h2 hq2 => ?_)
  obtain ⟨rfl, hG2⟩ := hq2
  refine kl_icmp_eq C (pc := 611) (tgt := 1785) (kx_dd d_La_10 44 rfl) (by decide) (fun _ => ?_) (fun z => absurd rfl z)
  exact kl_widen (by omega) (by omega) (kont h2 hG2)
theorem la_rate {p : Program} {l : Launch} {e : Env} {s : State} {m : MethodId} {args : Array Value} {below : List Frame} {meth : Method} {c : Code} {g : kx_G} {Q : State → Prop} {b L : Nat} {xs : Nat → Int32} (C : kx_Cx g m_La_law p s m args meth c) (hX : va_X b L xs s g.2.2.2.2) (hb : b < g.2.2.1) (hbg : kx_ad g 1000300 = b) (hL : L ≤ 3584) {k : Nat} {h : kx_Mem} (hk : k < 512) (hq7 : 7 * k + 7 ≤ L) (hG : Glob k h) (kont : ∀ h2, Glob (k + 1) h2 → kl_X p l e s m args below meth c g Q (200 + 3 * (k + 1)) (40000 + 511 * (k + 1)) 1785 [some (.ref 1000300), some (.ref 0), some (.ref 84), some (.int (nI (7 * k)))] [] h2) : kl_X p l e s m args below meth c g Q (200 + 3 * k) (40000 + 511 * k) 616 [some (.ref 1000300), some (.ref 0), some (.ref 84), some (.int (nI (7 * k)))] [] h := by
  refine kl_aload_n C (pc := 616) (kx_dd d_La_11 0 rfl) rfl rfl ?_
  refine kl_aload_n C (pc := 617) (kx_dd d_La_11 1 rfl) rfl rfl ?_
  refine kl_iload_n C (pc := 618) (kx_dd d_La_11 2 rfl) rfl rfl ?_
  refine kl_iconst C (pc := 619) (v := nI 1) (kx_dd d_La_11 3 rfl) (by decide) ?_
  refine kl_iadd C (pc := 620) (kx_dd d_La_11 4 rfl) ?_
  refine kl_sldn C (pc := 621) (7 * k + 1) hX hb hbg (by rw [nI_add]) (by omega) (by omega) (kx_dd d_La_11 5 rfl) ?_
  refine kl_aload_n C (pc := 622) (kx_dd d_La_11 6 rfl) rfl rfl ?_
  refine kl_iload_n C (pc := 623) (kx_dd d_La_11 7 rfl) rfl rfl ?_
  refine kl_iconst C (pc := 624) (v := nI 2) (kx_dd d_La_11 8 rfl) (by decide) ?_
  refine kl_iadd C (pc := 625) (kx_dd d_La_11 9 rfl) ?_
  refine kl_sldn C (pc := 626) (7 * k + 2) hX hb hbg (by rw [nI_add]) (by omega) (by omega) (kx_dd d_La_11 10 rfl) ?_
  refine kl_aload_n C (pc := 627) (kx_dd d_La_11 11 rfl) rfl rfl ?_
  refine kl_iload_n C (pc := 628) (kx_dd d_La_11 12 rfl) rfl rfl ?_
  refine kl_iconst C (pc := 629) (v := nI 3) (kx_dd d_La_11 13 rfl) (by decide) ?_
  refine kl_iadd C (pc := 630) (kx_dd d_La_11 14 rfl) ?_
  refine kl_sldn C (pc := 631) (7 * k + 3) hX hb hbg (by rw [nI_add]) (by omega) (by omega) (kx_dd d_La_11 15 rfl) ?_
  refine kl_invV C (pc := 632) (a := 0) (ci := 12) (as := [.int (xs (7 * k + 1)), .int (xs (7 * k + 2)), .int (xs (7 * k + 3))]) (kx_dd d_La_11 16 rfl) ⟨lk_La_59, wi_Tc_rate, we_Tc_rate⟩ w_Tc_rate hG.k0 rfl rfl rfl rfl (Nat.le_of_ble_eq_true rfl) (st_rate hk hG (xs (7 * k + 1)) (xs (7 * k + 2)) (xs (7 * k + 3))) (by decide) ⟨by omega, by omega⟩ (fun v h1 hq => ?_)
  obtain ⟨y, rfl, k84, hM⟩ := hq
  refine kl_aload_n C (pc := 635) (kx_dd d_La_11 17 rfl) rfl rfl ?_
  refine kl_aload_n C (pc := 636) (kx_dd d_La_11 18 rfl) rfl rfl ?_
  refine kl_iload_n C (pc := 637) (kx_dd d_La_11 19 rfl) rfl rfl ?_
  refine kl_iconst C (pc := 638) (v := nI 1) (kx_dd d_La_11 20 rfl) (by decide) ?_
  refine kl_iadd C (pc := 639) (kx_dd d_La_11 21 rfl) ?_
  refine kl_sldn C (pc := 640) (7 * k + 1) hX hb hbg (by rw [nI_add]) (by omega) (by omega) (kx_dd d_La_11 22 rfl) ?_
  refine kl_aload_n C (pc := 641) (kx_dd d_La_11 23 rfl) rfl rfl ?_
  refine kl_iload_n C (pc := 642) (kx_dd d_La_11 24 rfl) rfl rfl ?_
  refine kl_iconst C (pc := 643) (v := nI 2) (kx_dd d_La_11 25 rfl) (by decide) ?_
  refine kl_iadd C (pc := 644) (kx_dd d_La_11 26 rfl) ?_
  refine kl_sldn C (pc := 645) (7 * k + 2) hX hb hbg (by rw [nI_add]) (by omega) (by omega) (kx_dd d_La_11 27 rfl) ?_
  refine kl_aload_n C (pc := 646) (kx_dd d_La_11 28 rfl) rfl rfl ?_
  refine kl_iload_n C (pc := 647) (kx_dd d_La_11 29 rfl) rfl rfl ?_
  refine kl_iconst C (pc := 648) (v := nI 3) (kx_dd d_La_11 30 rfl) (by decide) ?_
  refine kl_iadd C (pc := 649) (kx_dd d_La_11 31 rfl) ?_
  refine kl_sldn C (pc := 650) (7 * k + 3) hX hb hbg (by rw [nI_add]) (by omega) (by omega) (kx_dd d_La_11 32 rfl) ?_
  refine kl_invV C (pc := 651) (a := 84) (ci := 14) (as := [.int (xs (7 * k + 1)), .int (xs (7 * k + 2)), .int (xs (7 * k + 3))]) (st := [.int y]) (kx_dd d_La_11 33 rfl) ⟨lk_La_62, wi_Mo_rate, we_Mo_rate⟩ w_Mo_rate k84 rfl rfl rfl rfl (Nat.le_of_ble_eq_true rfl) hM (by decide) ⟨by omega, by omega⟩ (fun v2 h2 hq2 => ?_)
  obtain ⟨rfl, hG2⟩ := hq2
  refine kl_icmp_eq C (pc := 654) (tgt := 1785) (kx_dd d_La_11 34 rfl) (by decide) (fun _ => ?_) (fun z => absurd rfl z)
  exact kl_widen (by omega) (by omega) (kont h2 hG2)
theorem la_rateOn {p : Program} {l : Launch} {e : Env} {s : State} {m : MethodId} {args : Array Value} {below : List Frame} {meth : Method} {c : Code} {g : kx_G} {Q : State → Prop} {b L : Nat} {xs : Nat → Int32} (C : kx_Cx g m_La_law p s m args meth c) (hX : va_X b L xs s g.2.2.2.2) (hb : b < g.2.2.1) (hbg : kx_ad g 1000300 = b) (hL : L ≤ 3584) {k : Nat} {h : kx_Mem} (hk : k < 512) (hq7 : 7 * k + 7 ≤ L) (hG : Glob k h) (kont : ∀ h2, Glob (k + 1) h2 → kl_X p l e s m args below meth c g Q (200 + 3 * (k + 1)) (40000 + 511 * (k + 1)) 1785 [some (.ref 1000300), some (.ref 0), some (.ref 84), some (.int (nI (7 * k)))] [] h2) : kl_X p l e s m args below meth c g Q (200 + 3 * k) (40000 + 511 * k) 659 [some (.ref 1000300), some (.ref 0), some (.ref 84), some (.int (nI (7 * k)))] [] h := by
  refine kl_aload_n C (pc := 659) (kx_dd d_La_12 0 rfl) rfl rfl ?_
  refine kl_aload_n C (pc := 660) (kx_dd d_La_12 1 rfl) rfl rfl ?_
  refine kl_iload_n C (pc := 661) (kx_dd d_La_12 2 rfl) rfl rfl ?_
  refine kl_iconst C (pc := 662) (v := nI 1) (kx_dd d_La_12 3 rfl) (by decide) ?_
  refine kl_iadd C (pc := 663) (kx_dd d_La_12 4 rfl) ?_
  refine kl_sldn C (pc := 664) (7 * k + 1) hX hb hbg (by rw [nI_add]) (by omega) (by omega) (kx_dd d_La_12 5 rfl) ?_
  refine kl_aload_n C (pc := 665) (kx_dd d_La_12 6 rfl) rfl rfl ?_
  refine kl_iload_n C (pc := 666) (kx_dd d_La_12 7 rfl) rfl rfl ?_
  refine kl_iconst C (pc := 667) (v := nI 2) (kx_dd d_La_12 8 rfl) (by decide) ?_
  refine kl_iadd C (pc := 668) (kx_dd d_La_12 9 rfl) ?_
  refine kl_sldn C (pc := 669) (7 * k + 2) hX hb hbg (by rw [nI_add]) (by omega) (by omega) (kx_dd d_La_12 10 rfl) ?_
  refine kl_invV C (pc := 670) (a := 0) (ci := 12) (as := [.int (xs (7 * k + 1)), .int (xs (7 * k + 2))]) (kx_dd d_La_12 11 rfl) ⟨lk_La_63, wi_Tc_rateOn, we_Tc_rateOn⟩ w_Tc_rateOn hG.k0 rfl rfl rfl rfl (Nat.le_of_ble_eq_true rfl) (st_rateOn hk hG (xs (7 * k + 1)) (xs (7 * k + 2))) (by decide) ⟨by omega, by omega⟩ (fun v h1 hq => ?_)
  obtain ⟨y, rfl, k84, hM⟩ := hq
  refine kl_aload_n C (pc := 673) (kx_dd d_La_12 12 rfl) rfl rfl ?_
  refine kl_aload_n C (pc := 674) (kx_dd d_La_12 13 rfl) rfl rfl ?_
  refine kl_iload_n C (pc := 675) (kx_dd d_La_12 14 rfl) rfl rfl ?_
  refine kl_iconst C (pc := 676) (v := nI 1) (kx_dd d_La_12 15 rfl) (by decide) ?_
  refine kl_iadd C (pc := 677) (kx_dd d_La_12 16 rfl) ?_
  refine kl_sldn C (pc := 678) (7 * k + 1) hX hb hbg (by rw [nI_add]) (by omega) (by omega) (kx_dd d_La_12 17 rfl) ?_
  refine kl_aload_n C (pc := 679) (kx_dd d_La_12 18 rfl) rfl rfl ?_
  refine kl_iload_n C (pc := 680) (kx_dd d_La_12 19 rfl) rfl rfl ?_
  refine kl_iconst C (pc := 681) (v := nI 2) (kx_dd d_La_12 20 rfl) (by decide) ?_
  refine kl_iadd C (pc := 682) (kx_dd d_La_12 21 rfl) ?_
  refine kl_sldn C (pc := 683) (7 * k + 2) hX hb hbg (by rw [nI_add]) (by omega) (by omega) (kx_dd d_La_12 22 rfl) ?_
  refine kl_invV C (pc := 684) (a := 84) (ci := 14) (as := [.int (xs (7 * k + 1)), .int (xs (7 * k + 2))]) (st := [.int y]) (kx_dd d_La_12 23 rfl) ⟨lk_La_66, wi_Mo_rateOn, we_Mo_rateOn⟩ w_Mo_rateOn k84 rfl rfl rfl rfl (Nat.le_of_ble_eq_true rfl) hM (by decide) ⟨by omega, by omega⟩ (fun v2 h2 hq2 => ?_)
  obtain ⟨rfl, hG2⟩ := hq2
  refine kl_icmp_eq C (pc := 687) (tgt := 1785) (kx_dd d_La_12 24 rfl) (by decide) (fun _ => ?_) (fun z => absurd rfl z)
  exact kl_widen (by omega) (by omega) (kont h2 hG2)
theorem la_sides {p : Program} {l : Launch} {e : Env} {s : State} {m : MethodId} {args : Array Value} {below : List Frame} {meth : Method} {c : Code} {g : kx_G} {Q : State → Prop} {b L : Nat} {xs : Nat → Int32} (C : kx_Cx g m_La_law p s m args meth c) (hX : va_X b L xs s g.2.2.2.2) (hb : b < g.2.2.1) (hbg : kx_ad g 1000300 = b) (hL : L ≤ 3584) {k : Nat} {h : kx_Mem} (hk : k < 512) (hq7 : 7 * k + 7 ≤ L) (hG : Glob k h) (kont : ∀ h2, Glob (k + 1) h2 → kl_X p l e s m args below meth c g Q (200 + 3 * (k + 1)) (40000 + 511 * (k + 1)) 1785 [some (.ref 1000300), some (.ref 0), some (.ref 84), some (.int (nI (7 * k)))] [] h2) : kl_X p l e s m args below meth c g Q (200 + 3 * k) (40000 + 511 * k) 692 [some (.ref 1000300), some (.ref 0), some (.ref 84), some (.int (nI (7 * k)))] [] h := by
  refine kl_aload_n C (pc := 692) (kx_dd d_La_13 0 rfl) rfl rfl ?_
  refine kl_aload_n C (pc := 693) (kx_dd d_La_13 1 rfl) rfl rfl ?_
  refine kl_iload_n C (pc := 694) (kx_dd d_La_13 2 rfl) rfl rfl ?_
  refine kl_iconst C (pc := 695) (v := nI 1) (kx_dd d_La_13 3 rfl) (by decide) ?_
  refine kl_iadd C (pc := 696) (kx_dd d_La_13 4 rfl) ?_
  refine kl_sldn C (pc := 697) (7 * k + 1) hX hb hbg (by rw [nI_add]) (by omega) (by omega) (kx_dd d_La_13 5 rfl) ?_
  refine kl_aload_n C (pc := 698) (kx_dd d_La_13 6 rfl) rfl rfl ?_
  refine kl_iload_n C (pc := 699) (kx_dd d_La_13 7 rfl) rfl rfl ?_
  refine kl_iconst C (pc := 700) (v := nI 2) (kx_dd d_La_13 8 rfl) (by decide) ?_
  refine kl_iadd C (pc := 701) (kx_dd d_La_13 9 rfl) ?_
  refine kl_sldn C (pc := 702) (7 * k + 2) hX hb hbg (by rw [nI_add]) (by omega) (by omega) (kx_dd d_La_13 10 rfl) ?_
  refine kl_invV C (pc := 703) (a := 0) (ci := 12) (as := [.int (xs (7 * k + 1)), .int (xs (7 * k + 2))]) (kx_dd d_La_13 11 rfl) ⟨lk_La_67, wi_Tc_sides, we_Tc_sides⟩ w_Tc_sides hG.k0 rfl rfl rfl rfl (Nat.le_of_ble_eq_true rfl) (st_sides hk hG (xs (7 * k + 1)) (xs (7 * k + 2))) (by decide) ⟨by omega, by omega⟩ (fun v h1 hq => ?_)
  obtain ⟨y, rfl, k84, hM⟩ := hq
  refine kl_aload_n C (pc := 706) (kx_dd d_La_13 12 rfl) rfl rfl ?_
  refine kl_aload_n C (pc := 707) (kx_dd d_La_13 13 rfl) rfl rfl ?_
  refine kl_iload_n C (pc := 708) (kx_dd d_La_13 14 rfl) rfl rfl ?_
  refine kl_iconst C (pc := 709) (v := nI 1) (kx_dd d_La_13 15 rfl) (by decide) ?_
  refine kl_iadd C (pc := 710) (kx_dd d_La_13 16 rfl) ?_
  refine kl_sldn C (pc := 711) (7 * k + 1) hX hb hbg (by rw [nI_add]) (by omega) (by omega) (kx_dd d_La_13 17 rfl) ?_
  refine kl_aload_n C (pc := 712) (kx_dd d_La_13 18 rfl) rfl rfl ?_
  refine kl_iload_n C (pc := 713) (kx_dd d_La_13 19 rfl) rfl rfl ?_
  refine kl_iconst C (pc := 714) (v := nI 2) (kx_dd d_La_13 20 rfl) (by decide) ?_
  refine kl_iadd C (pc := 715) (kx_dd d_La_13 21 rfl) ?_
  refine kl_sldn C (pc := 716) (7 * k + 2) hX hb hbg (by rw [nI_add]) (by omega) (by omega) (kx_dd d_La_13 22 rfl) ?_
  refine kl_invV C (pc := 717) (a := 84) (ci := 14) (as := [.int (xs (7 * k + 1)), .int (xs (7 * k + 2))]) (st := [.int y]) (kx_dd d_La_13 23 rfl) ⟨lk_La_70, wi_Mo_sides, we_Mo_sides⟩ w_Mo_sides k84 rfl rfl rfl rfl (Nat.le_of_ble_eq_true rfl) hM (by decide) ⟨by omega, by omega⟩ (fun v2 h2 hq2 => ?_)
  obtain ⟨rfl, hG2⟩ := hq2
  refine kl_icmp_eq C (pc := 720) (tgt := 1785) (kx_dd d_La_13 24 rfl) (by decide) (fun _ => ?_) (fun z => absurd rfl z)
  exact kl_widen (by omega) (by omega) (kont h2 hG2)
theorem la_rules {p : Program} {l : Launch} {e : Env} {s : State} {m : MethodId} {args : Array Value} {below : List Frame} {meth : Method} {c : Code} {g : kx_G} {Q : State → Prop} {b L : Nat} {xs : Nat → Int32} (C : kx_Cx g m_La_law p s m args meth c) (hX : va_X b L xs s g.2.2.2.2) (hb : b < g.2.2.1) (hbg : kx_ad g 1000300 = b) (hL : L ≤ 3584) {k : Nat} {h : kx_Mem} (hk : k < 512) (hq7 : 7 * k + 7 ≤ L) (hG : Glob k h) (kont : ∀ h2, Glob (k + 1) h2 → kl_X p l e s m args below meth c g Q (200 + 3 * (k + 1)) (40000 + 511 * (k + 1)) 1785 [some (.ref 1000300), some (.ref 0), some (.ref 84), some (.int (nI (7 * k)))] [] h2) : kl_X p l e s m args below meth c g Q (200 + 3 * k) (40000 + 511 * k) 725 [some (.ref 1000300), some (.ref 0), some (.ref 84), some (.int (nI (7 * k)))] [] h := by
  refine kl_aload_n C (pc := 725) (kx_dd d_La_14 0 rfl) rfl rfl ?_
  refine kl_aload_n C (pc := 726) (kx_dd d_La_14 1 rfl) rfl rfl ?_
  refine kl_iload_n C (pc := 727) (kx_dd d_La_14 2 rfl) rfl rfl ?_
  refine kl_iconst C (pc := 728) (v := nI 1) (kx_dd d_La_14 3 rfl) (by decide) ?_
  refine kl_iadd C (pc := 729) (kx_dd d_La_14 4 rfl) ?_
  refine kl_sldn C (pc := 730) (7 * k + 1) hX hb hbg (by rw [nI_add]) (by omega) (by omega) (kx_dd d_La_14 5 rfl) ?_
  refine kl_invV C (pc := 731) (a := 0) (ci := 12) (as := [.int (xs (7 * k + 1))]) (kx_dd d_La_14 6 rfl) ⟨lk_La_71, wi_Tc_rules, we_Tc_rules⟩ w_Tc_rules hG.k0 rfl rfl rfl rfl (Nat.le_of_ble_eq_true rfl) (st_rules hk hG (xs (7 * k + 1))) (by decide) ⟨by omega, by omega⟩ (fun v h1 hq => ?_)
  obtain ⟨y, rfl, k84, hM⟩ := hq
  refine kl_aload_n C (pc := 734) (kx_dd d_La_14 7 rfl) rfl rfl ?_
  refine kl_aload_n C (pc := 735) (kx_dd d_La_14 8 rfl) rfl rfl ?_
  refine kl_iload_n C (pc := 736) (kx_dd d_La_14 9 rfl) rfl rfl ?_
  refine kl_iconst C (pc := 737) (v := nI 1) (kx_dd d_La_14 10 rfl) (by decide) ?_
  refine kl_iadd C (pc := 738) (kx_dd d_La_14 11 rfl) ?_
  refine kl_sldn C (pc := 739) (7 * k + 1) hX hb hbg (by rw [nI_add]) (by omega) (by omega) (kx_dd d_La_14 12 rfl) ?_
  refine kl_invW C (pc := 740) (a := 84) (ci := 14) (as := [.int (xs (7 * k + 1))]) (st := [.int y]) (kx_dd d_La_14 13 rfl) kw_lk74 wi_Mo_rules we_Mo_rules kw_wrules k84 rfl rfl rfl rfl (Nat.le_of_ble_eq_true rfl) hM (by decide) ⟨by omega, by omega⟩ (fun v2 h2 hq2 => ?_)
  obtain ⟨rfl, hG2⟩ := hq2
  refine kl_icmp_eq C (pc := 743) (tgt := 1785) (kx_dd d_La_14 14 rfl) (by decide) (fun _ => ?_) (fun z => absurd rfl z)
  exact kl_widen (by omega) (by omega) (kont h2 hG2)
theorem la_fault {p : Program} {l : Launch} {e : Env} {s : State} {m : MethodId} {args : Array Value} {below : List Frame} {meth : Method} {c : Code} {g : kx_G} {Q : State → Prop} {b L : Nat} {xs : Nat → Int32} (C : kx_Cx g m_La_law p s m args meth c) (hX : va_X b L xs s g.2.2.2.2) (hb : b < g.2.2.1) (hbg : kx_ad g 1000300 = b) (hL : L ≤ 3584) {k : Nat} {h : kx_Mem} (hk : k < 512) (hq7 : 7 * k + 7 ≤ L) (hG : Glob k h) (kont : ∀ h2, Glob (k + 1) h2 → kl_X p l e s m args below meth c g Q (200 + 3 * (k + 1)) (40000 + 511 * (k + 1)) 1785 [some (.ref 1000300), some (.ref 0), some (.ref 84), some (.int (nI (7 * k)))] [] h2) : kl_X p l e s m args below meth c g Q (200 + 3 * k) (40000 + 511 * k) 748 [some (.ref 1000300), some (.ref 0), some (.ref 84), some (.int (nI (7 * k)))] [] h := by
  refine kl_aload_n C (pc := 748) (kx_dd d_La_15 0 rfl) rfl rfl ?_
  refine kl_aload_n C (pc := 749) (kx_dd d_La_15 1 rfl) rfl rfl ?_
  refine kl_iload_n C (pc := 750) (kx_dd d_La_15 2 rfl) rfl rfl ?_
  refine kl_iconst C (pc := 751) (v := nI 1) (kx_dd d_La_15 3 rfl) (by decide) ?_
  refine kl_iadd C (pc := 752) (kx_dd d_La_15 4 rfl) ?_
  refine kl_sldn C (pc := 753) (7 * k + 1) hX hb hbg (by rw [nI_add]) (by omega) (by omega) (kx_dd d_La_15 5 rfl) ?_
  refine kl_invV C (pc := 754) (a := 0) (ci := 12) (as := [.int (xs (7 * k + 1))]) (kx_dd d_La_15 6 rfl) ⟨lk_La_75, wi_Tc_fault, we_Tc_fault⟩ w_Tc_fault hG.k0 rfl rfl rfl rfl (Nat.le_of_ble_eq_true rfl) (st_fault hk hG (xs (7 * k + 1))) (by decide) ⟨by omega, by omega⟩ (fun v h1 hq => ?_)
  obtain ⟨y, rfl, k84, hM⟩ := hq
  refine kl_aload_n C (pc := 757) (kx_dd d_La_15 7 rfl) rfl rfl ?_
  refine kl_aload_n C (pc := 758) (kx_dd d_La_15 8 rfl) rfl rfl ?_
  refine kl_iload_n C (pc := 759) (kx_dd d_La_15 9 rfl) rfl rfl ?_
  refine kl_iconst C (pc := 760) (v := nI 1) (kx_dd d_La_15 10 rfl) (by decide) ?_
  refine kl_iadd C (pc := 761) (kx_dd d_La_15 11 rfl) ?_
  refine kl_sldn C (pc := 762) (7 * k + 1) hX hb hbg (by rw [nI_add]) (by omega) (by omega) (kx_dd d_La_15 12 rfl) ?_
  refine kl_invV C (pc := 763) (a := 84) (ci := 14) (as := [.int (xs (7 * k + 1))]) (st := [.int y]) (kx_dd d_La_15 13 rfl) ⟨lk_La_78, wi_Mo_fault, we_Mo_fault⟩ w_Mo_fault k84 rfl rfl rfl rfl (Nat.le_of_ble_eq_true rfl) hM (by decide) ⟨by omega, by omega⟩ (fun v2 h2 hq2 => ?_)
  obtain ⟨rfl, hG2⟩ := hq2
  refine kl_icmp_eq C (pc := 766) (tgt := 1785) (kx_dd d_La_15 14 rfl) (by decide) (fun _ => ?_) (fun z => absurd rfl z)
  exact kl_widen (by omega) (by omega) (kont h2 hG2)
theorem la_force {p : Program} {l : Launch} {e : Env} {s : State} {m : MethodId} {args : Array Value} {below : List Frame} {meth : Method} {c : Code} {g : kx_G} {Q : State → Prop} {b L : Nat} {xs : Nat → Int32} (C : kx_Cx g m_La_law p s m args meth c) (hX : va_X b L xs s g.2.2.2.2) (hb : b < g.2.2.1) (hbg : kx_ad g 1000300 = b) (hL : L ≤ 3584) {k : Nat} {h : kx_Mem} (hk : k < 512) (hq7 : 7 * k + 7 ≤ L) (hG : Glob k h) (kont : ∀ h2, Glob (k + 1) h2 → kl_X p l e s m args below meth c g Q (200 + 3 * (k + 1)) (40000 + 511 * (k + 1)) 1785 [some (.ref 1000300), some (.ref 0), some (.ref 84), some (.int (nI (7 * k)))] [] h2) : kl_X p l e s m args below meth c g Q (200 + 3 * k) (40000 + 511 * k) 771 [some (.ref 1000300), some (.ref 0), some (.ref 84), some (.int (nI (7 * k)))] [] h := by
  refine kl_aload_n C (pc := 771) (kx_dd d_La_16 0 rfl) rfl rfl ?_
  refine kl_aload_n C (pc := 772) (kx_dd d_La_16 1 rfl) rfl rfl ?_
  refine kl_iload_n C (pc := 773) (kx_dd d_La_16 2 rfl) rfl rfl ?_
  refine kl_iconst C (pc := 774) (v := nI 1) (kx_dd d_La_16 3 rfl) (by decide) ?_
  refine kl_iadd C (pc := 775) (kx_dd d_La_16 4 rfl) ?_
  refine kl_sldn C (pc := 776) (7 * k + 1) hX hb hbg (by rw [nI_add]) (by omega) (by omega) (kx_dd d_La_16 5 rfl) ?_
  refine kl_invV C (pc := 777) (a := 0) (ci := 12) (as := [.int (xs (7 * k + 1))]) (kx_dd d_La_16 6 rfl) ⟨lk_La_79, wi_Tc_force, we_Tc_force⟩ w_Tc_force hG.k0 rfl rfl rfl rfl (Nat.le_of_ble_eq_true rfl) (st_force hk hG (xs (7 * k + 1))) (by decide) ⟨by omega, by omega⟩ (fun v h1 hq => ?_)
  obtain ⟨y, rfl, k84, hM⟩ := hq
  refine kl_aload_n C (pc := 780) (kx_dd d_La_16 7 rfl) rfl rfl ?_
  refine kl_aload_n C (pc := 781) (kx_dd d_La_16 8 rfl) rfl rfl ?_
  refine kl_iload_n C (pc := 782) (kx_dd d_La_16 9 rfl) rfl rfl ?_
  refine kl_iconst C (pc := 783) (v := nI 1) (kx_dd d_La_16 10 rfl) (by decide) ?_
  refine kl_iadd C (pc := 784) (kx_dd d_La_16 11 rfl) ?_
  refine kl_sldn C (pc := 785) (7 * k + 1) hX hb hbg (by rw [nI_add]) (by omega) (by omega) (kx_dd d_La_16 12 rfl) ?_
  refine kl_invV C (pc := 786) (a := 84) (ci := 14) (as := [.int (xs (7 * k + 1))]) (st := [.int y]) (kx_dd d_La_16 13 rfl) ⟨lk_La_82, wi_Mo_force, we_Mo_force⟩ w_Mo_force k84 rfl rfl rfl rfl (Nat.le_of_ble_eq_true rfl) hM (by decide) ⟨by omega, by omega⟩ (fun v2 h2 hq2 => ?_)
  obtain ⟨rfl, hG2⟩ := hq2
  refine kl_icmp_eq C (pc := 789) (tgt := 1785) (kx_dd d_La_16 14 rfl) (by decide) (fun _ => ?_) (fun z => absurd rfl z)
  exact kl_widen (by omega) (by omega) (kont h2 hG2)
theorem la_rule {p : Program} {l : Launch} {e : Env} {s : State} {m : MethodId} {args : Array Value} {below : List Frame} {meth : Method} {c : Code} {g : kx_G} {Q : State → Prop} {b L : Nat} {xs : Nat → Int32} (C : kx_Cx g m_La_law p s m args meth c) (hX : va_X b L xs s g.2.2.2.2) (hb : b < g.2.2.1) (hbg : kx_ad g 1000300 = b) (hL : L ≤ 3584) {k : Nat} {h : kx_Mem} (hk : k < 512) (hq7 : 7 * k + 7 ≤ L) (hG : Glob k h) (kont : ∀ h2, Glob (k + 1) h2 → kl_X p l e s m args below meth c g Q (200 + 3 * (k + 1)) (40000 + 511 * (k + 1)) 1785 [some (.ref 1000300), some (.ref 0), some (.ref 84), some (.int (nI (7 * k)))] [] h2) : kl_X p l e s m args below meth c g Q (200 + 3 * k) (40000 + 511 * k) 794 [some (.ref 1000300), some (.ref 0), some (.ref 84), some (.int (nI (7 * k)))] [] h := by
  refine kl_aload_n C (pc := 794) (kx_dd d_La_17 0 rfl) rfl rfl ?_
  refine kl_aload_n C (pc := 795) (kx_dd d_La_17 1 rfl) rfl rfl ?_
  refine kl_iload_n C (pc := 796) (kx_dd d_La_17 2 rfl) rfl rfl ?_
  refine kl_iconst C (pc := 797) (v := nI 1) (kx_dd d_La_17 3 rfl) (by decide) ?_
  refine kl_iadd C (pc := 798) (kx_dd d_La_17 4 rfl) ?_
  refine kl_sldn C (pc := 799) (7 * k + 1) hX hb hbg (by rw [nI_add]) (by omega) (by omega) (kx_dd d_La_17 5 rfl) ?_
  refine kl_aload_n C (pc := 800) (kx_dd d_La_17 6 rfl) rfl rfl ?_
  refine kl_iload_n C (pc := 801) (kx_dd d_La_17 7 rfl) rfl rfl ?_
  refine kl_iconst C (pc := 802) (v := nI 2) (kx_dd d_La_17 8 rfl) (by decide) ?_
  refine kl_iadd C (pc := 803) (kx_dd d_La_17 9 rfl) ?_
  refine kl_sldn C (pc := 804) (7 * k + 2) hX hb hbg (by rw [nI_add]) (by omega) (by omega) (kx_dd d_La_17 10 rfl) ?_
  refine kl_invV C (pc := 805) (a := 0) (ci := 12) (as := [.int (xs (7 * k + 1)), .int (xs (7 * k + 2))]) (kx_dd d_La_17 11 rfl) ⟨lk_La_83, wi_Tc_rule, we_Tc_rule⟩ w_Tc_rule hG.k0 rfl rfl rfl rfl (Nat.le_of_ble_eq_true rfl) (st_rule hk hG (xs (7 * k + 1)) (xs (7 * k + 2))) (by decide) ⟨by omega, by omega⟩ (fun v h1 hq => ?_)
  obtain ⟨y, rfl, k84, hM⟩ := hq
  refine kl_aload_n C (pc := 808) (kx_dd d_La_17 12 rfl) rfl rfl ?_
  refine kl_aload_n C (pc := 809) (kx_dd d_La_17 13 rfl) rfl rfl ?_
  refine kl_iload_n C (pc := 810) (kx_dd d_La_17 14 rfl) rfl rfl ?_
  refine kl_iconst C (pc := 811) (v := nI 1) (kx_dd d_La_17 15 rfl) (by decide) ?_
  refine kl_iadd C (pc := 812) (kx_dd d_La_17 16 rfl) ?_
  refine kl_sldn C (pc := 813) (7 * k + 1) hX hb hbg (by rw [nI_add]) (by omega) (by omega) (kx_dd d_La_17 17 rfl) ?_
  refine kl_aload_n C (pc := 814) (kx_dd d_La_17 18 rfl) rfl rfl ?_
  refine kl_iload_n C (pc := 815) (kx_dd d_La_17 19 rfl) rfl rfl ?_
  refine kl_iconst C (pc := 816) (v := nI 2) (kx_dd d_La_17 20 rfl) (by decide) ?_
  refine kl_iadd C (pc := 817) (kx_dd d_La_17 21 rfl) ?_
  refine kl_sldn C (pc := 818) (7 * k + 2) hX hb hbg (by rw [nI_add]) (by omega) (by omega) (kx_dd d_La_17 22 rfl) ?_
  refine kl_invV C (pc := 819) (a := 84) (ci := 14) (as := [.int (xs (7 * k + 1)), .int (xs (7 * k + 2))]) (st := [.int y]) (kx_dd d_La_17 23 rfl) ⟨lk_La_86, wi_Mo_rule, we_Mo_rule⟩ w_Mo_rule k84 rfl rfl rfl rfl (Nat.le_of_ble_eq_true rfl) hM (by decide) ⟨by omega, by omega⟩ (fun v2 h2 hq2 => ?_)
  obtain ⟨rfl, hG2⟩ := hq2
  refine kl_icmp_eq C (pc := 822) (tgt := 1785) (kx_dd d_La_17 24 rfl) (by decide) (fun _ => ?_) (fun z => absurd rfl z)
  exact kl_widen (by omega) (by omega) (kont h2 hG2)
theorem la_need {p : Program} {l : Launch} {e : Env} {s : State} {m : MethodId} {args : Array Value} {below : List Frame} {meth : Method} {c : Code} {g : kx_G} {Q : State → Prop} {b L : Nat} {xs : Nat → Int32} (C : kx_Cx g m_La_law p s m args meth c) (hX : va_X b L xs s g.2.2.2.2) (hb : b < g.2.2.1) (hbg : kx_ad g 1000300 = b) (hL : L ≤ 3584) {k : Nat} {h : kx_Mem} (hk : k < 512) (hq7 : 7 * k + 7 ≤ L) (hG : Glob k h) (kont : ∀ h2, Glob (k + 1) h2 → kl_X p l e s m args below meth c g Q (200 + 3 * (k + 1)) (40000 + 511 * (k + 1)) 1785 [some (.ref 1000300), some (.ref 0), some (.ref 84), some (.int (nI (7 * k)))] [] h2) : kl_X p l e s m args below meth c g Q (200 + 3 * k) (40000 + 511 * k) 827 [some (.ref 1000300), some (.ref 0), some (.ref 84), some (.int (nI (7 * k)))] [] h := by
  refine kl_aload_n C (pc := 827) (kx_dd d_La_18 0 rfl) rfl rfl ?_
  refine kl_aload_n C (pc := 828) (kx_dd d_La_18 1 rfl) rfl rfl ?_
  refine kl_iload_n C (pc := 829) (kx_dd d_La_18 2 rfl) rfl rfl ?_
  refine kl_iconst C (pc := 830) (v := nI 1) (kx_dd d_La_18 3 rfl) (by decide) ?_
  refine kl_iadd C (pc := 831) (kx_dd d_La_18 4 rfl) ?_
  refine kl_sldn C (pc := 832) (7 * k + 1) hX hb hbg (by rw [nI_add]) (by omega) (by omega) (kx_dd d_La_18 5 rfl) ?_
  refine kl_invV C (pc := 833) (a := 0) (ci := 12) (as := [.int (xs (7 * k + 1))]) (kx_dd d_La_18 6 rfl) ⟨lk_La_87, wi_Tc_need, we_Tc_need⟩ w_Tc_need hG.k0 rfl rfl rfl rfl (Nat.le_of_ble_eq_true rfl) (st_need hk hG (xs (7 * k + 1))) (by decide) ⟨by omega, by omega⟩ (fun v h1 hq => ?_)
  obtain ⟨y, rfl, k84, hM⟩ := hq
  refine kl_aload_n C (pc := 836) (kx_dd d_La_18 7 rfl) rfl rfl ?_
  refine kl_aload_n C (pc := 837) (kx_dd d_La_18 8 rfl) rfl rfl ?_
  refine kl_iload_n C (pc := 838) (kx_dd d_La_18 9 rfl) rfl rfl ?_
  refine kl_iconst C (pc := 839) (v := nI 1) (kx_dd d_La_18 10 rfl) (by decide) ?_
  refine kl_iadd C (pc := 840) (kx_dd d_La_18 11 rfl) ?_
  refine kl_sldn C (pc := 841) (7 * k + 1) hX hb hbg (by rw [nI_add]) (by omega) (by omega) (kx_dd d_La_18 12 rfl) ?_
  refine kl_invV C (pc := 842) (a := 84) (ci := 14) (as := [.int (xs (7 * k + 1))]) (st := [.int y]) (kx_dd d_La_18 13 rfl) ⟨lk_La_90, wi_Mo_need, we_Mo_need⟩ w_Mo_need k84 rfl rfl rfl rfl (Nat.le_of_ble_eq_true rfl) hM (by decide) ⟨by omega, by omega⟩ (fun v2 h2 hq2 => ?_)
  obtain ⟨rfl, hG2⟩ := hq2
  refine kl_icmp_eq C (pc := 845) (tgt := 1785) (kx_dd d_La_18 14 rfl) (by decide) (fun _ => ?_) (fun z => absurd rfl z)
  exact kl_widen (by omega) (by omega) (kont h2 hG2)
theorem la_kind {p : Program} {l : Launch} {e : Env} {s : State} {m : MethodId} {args : Array Value} {below : List Frame} {meth : Method} {c : Code} {g : kx_G} {Q : State → Prop} {b L : Nat} {xs : Nat → Int32} (C : kx_Cx g m_La_law p s m args meth c) (hX : va_X b L xs s g.2.2.2.2) (hb : b < g.2.2.1) (hbg : kx_ad g 1000300 = b) (hL : L ≤ 3584) {k : Nat} {h : kx_Mem} (hk : k < 512) (hq7 : 7 * k + 7 ≤ L) (hG : Glob k h) (kont : ∀ h2, Glob (k + 1) h2 → kl_X p l e s m args below meth c g Q (200 + 3 * (k + 1)) (40000 + 511 * (k + 1)) 1785 [some (.ref 1000300), some (.ref 0), some (.ref 84), some (.int (nI (7 * k)))] [] h2) : kl_X p l e s m args below meth c g Q (200 + 3 * k) (40000 + 511 * k) 850 [some (.ref 1000300), some (.ref 0), some (.ref 84), some (.int (nI (7 * k)))] [] h := by
  refine kl_aload_n C (pc := 850) (kx_dd d_La_19 0 rfl) rfl rfl ?_
  refine kl_aload_n C (pc := 851) (kx_dd d_La_19 1 rfl) rfl rfl ?_
  refine kl_iload_n C (pc := 852) (kx_dd d_La_19 2 rfl) rfl rfl ?_
  refine kl_iconst C (pc := 853) (v := nI 1) (kx_dd d_La_19 3 rfl) (by decide) ?_
  refine kl_iadd C (pc := 854) (kx_dd d_La_19 4 rfl) ?_
  refine kl_sldn C (pc := 855) (7 * k + 1) hX hb hbg (by rw [nI_add]) (by omega) (by omega) (kx_dd d_La_19 5 rfl) ?_
  refine kl_invV C (pc := 856) (a := 0) (ci := 12) (as := [.int (xs (7 * k + 1))]) (kx_dd d_La_19 6 rfl) ⟨lk_La_91, wi_Tc_kind, we_Tc_kind⟩ w_Tc_kind hG.k0 rfl rfl rfl rfl (Nat.le_of_ble_eq_true rfl) (st_kind hk hG (xs (7 * k + 1))) (by decide) ⟨by omega, by omega⟩ (fun v h1 hq => ?_)
  obtain ⟨y, rfl, k84, hM⟩ := hq
  refine kl_aload_n C (pc := 859) (kx_dd d_La_19 7 rfl) rfl rfl ?_
  refine kl_aload_n C (pc := 860) (kx_dd d_La_19 8 rfl) rfl rfl ?_
  refine kl_iload_n C (pc := 861) (kx_dd d_La_19 9 rfl) rfl rfl ?_
  refine kl_iconst C (pc := 862) (v := nI 1) (kx_dd d_La_19 10 rfl) (by decide) ?_
  refine kl_iadd C (pc := 863) (kx_dd d_La_19 11 rfl) ?_
  refine kl_sldn C (pc := 864) (7 * k + 1) hX hb hbg (by rw [nI_add]) (by omega) (by omega) (kx_dd d_La_19 12 rfl) ?_
  refine kl_invV C (pc := 865) (a := 84) (ci := 14) (as := [.int (xs (7 * k + 1))]) (st := [.int y]) (kx_dd d_La_19 13 rfl) ⟨lk_La_94, wi_Mo_kind, we_Mo_kind⟩ w_Mo_kind k84 rfl rfl rfl rfl (Nat.le_of_ble_eq_true rfl) hM (by decide) ⟨by omega, by omega⟩ (fun v2 h2 hq2 => ?_)
  obtain ⟨rfl, hG2⟩ := hq2
  refine kl_icmp_eq C (pc := 868) (tgt := 1785) (kx_dd d_La_19 14 rfl) (by decide) (fun _ => ?_) (fun z => absurd rfl z)
  exact kl_widen (by omega) (by omega) (kont h2 hG2)
theorem la_thing {p : Program} {l : Launch} {e : Env} {s : State} {m : MethodId} {args : Array Value} {below : List Frame} {meth : Method} {c : Code} {g : kx_G} {Q : State → Prop} {b L : Nat} {xs : Nat → Int32} (C : kx_Cx g m_La_law p s m args meth c) (hX : va_X b L xs s g.2.2.2.2) (hb : b < g.2.2.1) (hbg : kx_ad g 1000300 = b) (hL : L ≤ 3584) {k : Nat} {h : kx_Mem} (hk : k < 512) (hq7 : 7 * k + 7 ≤ L) (hG : Glob k h) (kont : ∀ h2, Glob (k + 1) h2 → kl_X p l e s m args below meth c g Q (200 + 3 * (k + 1)) (40000 + 511 * (k + 1)) 1785 [some (.ref 1000300), some (.ref 0), some (.ref 84), some (.int (nI (7 * k)))] [] h2) : kl_X p l e s m args below meth c g Q (200 + 3 * k) (40000 + 511 * k) 873 [some (.ref 1000300), some (.ref 0), some (.ref 84), some (.int (nI (7 * k)))] [] h := by
  refine kl_aload_n C (pc := 873) (kx_dd d_La_20 0 rfl) rfl rfl ?_
  refine kl_aload_n C (pc := 874) (kx_dd d_La_20 1 rfl) rfl rfl ?_
  refine kl_iload_n C (pc := 875) (kx_dd d_La_20 2 rfl) rfl rfl ?_
  refine kl_iconst C (pc := 876) (v := nI 1) (kx_dd d_La_20 3 rfl) (by decide) ?_
  refine kl_iadd C (pc := 877) (kx_dd d_La_20 4 rfl) ?_
  refine kl_sldn C (pc := 878) (7 * k + 1) hX hb hbg (by rw [nI_add]) (by omega) (by omega) (kx_dd d_La_20 5 rfl) ?_
  refine kl_aload_n C (pc := 879) (kx_dd d_La_20 6 rfl) rfl rfl ?_
  refine kl_iload_n C (pc := 880) (kx_dd d_La_20 7 rfl) rfl rfl ?_
  refine kl_iconst C (pc := 881) (v := nI 2) (kx_dd d_La_20 8 rfl) (by decide) ?_
  refine kl_iadd C (pc := 882) (kx_dd d_La_20 9 rfl) ?_
  refine kl_sldn C (pc := 883) (7 * k + 2) hX hb hbg (by rw [nI_add]) (by omega) (by omega) (kx_dd d_La_20 10 rfl) ?_
  refine kl_aload_n C (pc := 884) (kx_dd d_La_20 11 rfl) rfl rfl ?_
  refine kl_iload_n C (pc := 885) (kx_dd d_La_20 12 rfl) rfl rfl ?_
  refine kl_iconst C (pc := 886) (v := nI 3) (kx_dd d_La_20 13 rfl) (by decide) ?_
  refine kl_iadd C (pc := 887) (kx_dd d_La_20 14 rfl) ?_
  refine kl_sldn C (pc := 888) (7 * k + 3) hX hb hbg (by rw [nI_add]) (by omega) (by omega) (kx_dd d_La_20 15 rfl) ?_
  refine kl_invV C (pc := 889) (a := 0) (ci := 12) (as := [.int (xs (7 * k + 1)), .int (xs (7 * k + 2)), .int (xs (7 * k + 3))]) (kx_dd d_La_20 16 rfl) ⟨lk_La_95, wi_Tc_thing, we_Tc_thing⟩ w_Tc_thing hG.k0 rfl rfl rfl rfl (Nat.le_of_ble_eq_true rfl) (st_thing hk hG (xs (7 * k + 1)) (xs (7 * k + 2)) (xs (7 * k + 3))) (by decide) ⟨by omega, by omega⟩ (fun v h1 hq => ?_)
  obtain ⟨y, rfl, k84, hM⟩ := hq
  refine kl_aload_n C (pc := 892) (kx_dd d_La_20 17 rfl) rfl rfl ?_
  refine kl_aload_n C (pc := 893) (kx_dd d_La_20 18 rfl) rfl rfl ?_
  refine kl_iload_n C (pc := 894) (kx_dd d_La_20 19 rfl) rfl rfl ?_
  refine kl_iconst C (pc := 895) (v := nI 1) (kx_dd d_La_20 20 rfl) (by decide) ?_
  refine kl_iadd C (pc := 896) (kx_dd d_La_20 21 rfl) ?_
  refine kl_sldn C (pc := 897) (7 * k + 1) hX hb hbg (by rw [nI_add]) (by omega) (by omega) (kx_dd d_La_20 22 rfl) ?_
  refine kl_aload_n C (pc := 898) (kx_dd d_La_20 23 rfl) rfl rfl ?_
  refine kl_iload_n C (pc := 899) (kx_dd d_La_20 24 rfl) rfl rfl ?_
  refine kl_iconst C (pc := 900) (v := nI 2) (kx_dd d_La_20 25 rfl) (by decide) ?_
  refine kl_iadd C (pc := 901) (kx_dd d_La_20 26 rfl) ?_
  refine kl_sldn C (pc := 902) (7 * k + 2) hX hb hbg (by rw [nI_add]) (by omega) (by omega) (kx_dd d_La_20 27 rfl) ?_
  refine kl_aload_n C (pc := 903) (kx_dd d_La_20 28 rfl) rfl rfl ?_
  refine kl_iload_n C (pc := 904) (kx_dd d_La_20 29 rfl) rfl rfl ?_
  refine kl_iconst C (pc := 905) (v := nI 3) (kx_dd d_La_20 30 rfl) (by decide) ?_
  refine kl_iadd C (pc := 906) (kx_dd d_La_20 31 rfl) ?_
  refine kl_sldn C (pc := 907) (7 * k + 3) hX hb hbg (by rw [nI_add]) (by omega) (by omega) (kx_dd d_La_20 32 rfl) ?_
  refine kl_invV C (pc := 908) (a := 84) (ci := 14) (as := [.int (xs (7 * k + 1)), .int (xs (7 * k + 2)), .int (xs (7 * k + 3))]) (st := [.int y]) (kx_dd d_La_20 33 rfl) ⟨lk_La_98, wi_Mo_thing, we_Mo_thing⟩ w_Mo_thing k84 rfl rfl rfl rfl (Nat.le_of_ble_eq_true rfl) hM (by decide) ⟨by omega, by omega⟩ (fun v2 h2 hq2 => ?_)
  obtain ⟨rfl, hG2⟩ := hq2
  refine kl_icmp_eq C (pc := 911) (tgt := 1785) (kx_dd d_La_20 34 rfl) (by decide) (fun _ => ?_) (fun z => absurd rfl z)
  exact kl_widen (by omega) (by omega) (kont h2 hG2)
theorem la_lost {p : Program} {l : Launch} {e : Env} {s : State} {m : MethodId} {args : Array Value} {below : List Frame} {meth : Method} {c : Code} {g : kx_G} {Q : State → Prop} {b L : Nat} {xs : Nat → Int32} (C : kx_Cx g m_La_law p s m args meth c) (hX : va_X b L xs s g.2.2.2.2) (hb : b < g.2.2.1) (hbg : kx_ad g 1000300 = b) (hL : L ≤ 3584) {k : Nat} {h : kx_Mem} (hk : k < 512) (hq7 : 7 * k + 7 ≤ L) (hG : Glob k h) (kont : ∀ h2, Glob (k + 1) h2 → kl_X p l e s m args below meth c g Q (200 + 3 * (k + 1)) (40000 + 511 * (k + 1)) 1785 [some (.ref 1000300), some (.ref 0), some (.ref 84), some (.int (nI (7 * k)))] [] h2) : kl_X p l e s m args below meth c g Q (200 + 3 * k) (40000 + 511 * k) 916 [some (.ref 1000300), some (.ref 0), some (.ref 84), some (.int (nI (7 * k)))] [] h := by
  refine kl_aload_n C (pc := 916) (kx_dd d_La_21 0 rfl) rfl rfl ?_
  refine kl_aload_n C (pc := 917) (kx_dd d_La_21 1 rfl) rfl rfl ?_
  refine kl_iload_n C (pc := 918) (kx_dd d_La_21 2 rfl) rfl rfl ?_
  refine kl_iconst C (pc := 919) (v := nI 1) (kx_dd d_La_21 3 rfl) (by decide) ?_
  refine kl_iadd C (pc := 920) (kx_dd d_La_21 4 rfl) ?_
  refine kl_sldn C (pc := 921) (7 * k + 1) hX hb hbg (by rw [nI_add]) (by omega) (by omega) (kx_dd d_La_21 5 rfl) ?_
  refine kl_aload_n C (pc := 922) (kx_dd d_La_21 6 rfl) rfl rfl ?_
  refine kl_iload_n C (pc := 923) (kx_dd d_La_21 7 rfl) rfl rfl ?_
  refine kl_iconst C (pc := 924) (v := nI 2) (kx_dd d_La_21 8 rfl) (by decide) ?_
  refine kl_iadd C (pc := 925) (kx_dd d_La_21 9 rfl) ?_
  refine kl_sldn C (pc := 926) (7 * k + 2) hX hb hbg (by rw [nI_add]) (by omega) (by omega) (kx_dd d_La_21 10 rfl) ?_
  refine kl_invV C (pc := 927) (a := 0) (ci := 12) (as := [.int (xs (7 * k + 1)), .int (xs (7 * k + 2))]) (kx_dd d_La_21 11 rfl) ⟨lk_La_99, wi_Tc_lost, we_Tc_lost⟩ w_Tc_lost hG.k0 rfl rfl rfl rfl (Nat.le_of_ble_eq_true rfl) (st_lost hk hG (xs (7 * k + 1)) (xs (7 * k + 2))) (by decide) ⟨by omega, by omega⟩ (fun v h1 hq => ?_)
  obtain ⟨y, rfl, k84, hM⟩ := hq
  refine kl_aload_n C (pc := 930) (kx_dd d_La_21 12 rfl) rfl rfl ?_
  refine kl_aload_n C (pc := 931) (kx_dd d_La_21 13 rfl) rfl rfl ?_
  refine kl_iload_n C (pc := 932) (kx_dd d_La_21 14 rfl) rfl rfl ?_
  refine kl_iconst C (pc := 933) (v := nI 1) (kx_dd d_La_21 15 rfl) (by decide) ?_
  refine kl_iadd C (pc := 934) (kx_dd d_La_21 16 rfl) ?_
  refine kl_sldn C (pc := 935) (7 * k + 1) hX hb hbg (by rw [nI_add]) (by omega) (by omega) (kx_dd d_La_21 17 rfl) ?_
  refine kl_aload_n C (pc := 936) (kx_dd d_La_21 18 rfl) rfl rfl ?_
  refine kl_iload_n C (pc := 937) (kx_dd d_La_21 19 rfl) rfl rfl ?_
  refine kl_iconst C (pc := 938) (v := nI 2) (kx_dd d_La_21 20 rfl) (by decide) ?_
  refine kl_iadd C (pc := 939) (kx_dd d_La_21 21 rfl) ?_
  refine kl_sldn C (pc := 940) (7 * k + 2) hX hb hbg (by rw [nI_add]) (by omega) (by omega) (kx_dd d_La_21 22 rfl) ?_
  refine kl_invV C (pc := 941) (a := 84) (ci := 14) (as := [.int (xs (7 * k + 1)), .int (xs (7 * k + 2))]) (st := [.int y]) (kx_dd d_La_21 23 rfl) ⟨lk_La_102, wi_Mo_lost, we_Mo_lost⟩ w_Mo_lost k84 rfl rfl rfl rfl (Nat.le_of_ble_eq_true rfl) hM (by decide) ⟨by omega, by omega⟩ (fun v2 h2 hq2 => ?_)
  obtain ⟨rfl, hG2⟩ := hq2
  refine kl_icmp_eq C (pc := 944) (tgt := 1785) (kx_dd d_La_21 24 rfl) (by decide) (fun _ => ?_) (fun z => absurd rfl z)
  exact kl_widen (by omega) (by omega) (kont h2 hG2)
theorem la_claim {p : Program} {l : Launch} {e : Env} {s : State} {m : MethodId} {args : Array Value} {below : List Frame} {meth : Method} {c : Code} {g : kx_G} {Q : State → Prop} {b L : Nat} {xs : Nat → Int32} (C : kx_Cx g m_La_law p s m args meth c) (hX : va_X b L xs s g.2.2.2.2) (hb : b < g.2.2.1) (hbg : kx_ad g 1000300 = b) (hL : L ≤ 3584) {k : Nat} {h : kx_Mem} (hk : k < 512) (hq7 : 7 * k + 7 ≤ L) (hG : Glob k h) (kont : ∀ h2, Glob (k + 1) h2 → kl_X p l e s m args below meth c g Q (200 + 3 * (k + 1)) (40000 + 511 * (k + 1)) 1785 [some (.ref 1000300), some (.ref 0), some (.ref 84), some (.int (nI (7 * k)))] [] h2) : kl_X p l e s m args below meth c g Q (200 + 3 * k) (40000 + 511 * k) 949 [some (.ref 1000300), some (.ref 0), some (.ref 84), some (.int (nI (7 * k)))] [] h := by
  refine kl_aload_n C (pc := 949) (kx_dd d_La_22 0 rfl) rfl rfl ?_
  refine kl_aload_n C (pc := 950) (kx_dd d_La_22 1 rfl) rfl rfl ?_
  refine kl_iload_n C (pc := 951) (kx_dd d_La_22 2 rfl) rfl rfl ?_
  refine kl_iconst C (pc := 952) (v := nI 1) (kx_dd d_La_22 3 rfl) (by decide) ?_
  refine kl_iadd C (pc := 953) (kx_dd d_La_22 4 rfl) ?_
  refine kl_sldn C (pc := 954) (7 * k + 1) hX hb hbg (by rw [nI_add]) (by omega) (by omega) (kx_dd d_La_22 5 rfl) ?_
  refine kl_aload_n C (pc := 955) (kx_dd d_La_22 6 rfl) rfl rfl ?_
  refine kl_iload_n C (pc := 956) (kx_dd d_La_22 7 rfl) rfl rfl ?_
  refine kl_iconst C (pc := 957) (v := nI 2) (kx_dd d_La_22 8 rfl) (by decide) ?_
  refine kl_iadd C (pc := 958) (kx_dd d_La_22 9 rfl) ?_
  refine kl_sldn C (pc := 959) (7 * k + 2) hX hb hbg (by rw [nI_add]) (by omega) (by omega) (kx_dd d_La_22 10 rfl) ?_
  refine kl_aload_n C (pc := 960) (kx_dd d_La_22 11 rfl) rfl rfl ?_
  refine kl_iload_n C (pc := 961) (kx_dd d_La_22 12 rfl) rfl rfl ?_
  refine kl_iconst C (pc := 962) (v := nI 3) (kx_dd d_La_22 13 rfl) (by decide) ?_
  refine kl_iadd C (pc := 963) (kx_dd d_La_22 14 rfl) ?_
  refine kl_sldn C (pc := 964) (7 * k + 3) hX hb hbg (by rw [nI_add]) (by omega) (by omega) (kx_dd d_La_22 15 rfl) ?_
  refine kl_aload_n C (pc := 965) (kx_dd d_La_22 16 rfl) rfl rfl ?_
  refine kl_iload_n C (pc := 966) (kx_dd d_La_22 17 rfl) rfl rfl ?_
  refine kl_iconst C (pc := 967) (v := nI 4) (kx_dd d_La_22 18 rfl) (by decide) ?_
  refine kl_iadd C (pc := 968) (kx_dd d_La_22 19 rfl) ?_
  refine kl_sldn C (pc := 969) (7 * k + 4) hX hb hbg (by rw [nI_add]) (by omega) (by omega) (kx_dd d_La_22 20 rfl) ?_
  refine kl_aload_n C (pc := 970) (kx_dd d_La_22 21 rfl) rfl rfl ?_
  refine kl_iload_n C (pc := 971) (kx_dd d_La_22 22 rfl) rfl rfl ?_
  refine kl_iconst C (pc := 972) (v := nI 5) (kx_dd d_La_22 23 rfl) (by decide) ?_
  refine kl_iadd C (pc := 973) (kx_dd d_La_22 24 rfl) ?_
  refine kl_sldn C (pc := 974) (7 * k + 5) hX hb hbg (by rw [nI_add]) (by omega) (by omega) (kx_dd d_La_22 25 rfl) ?_
  refine kl_aload_n C (pc := 975) (kx_dd d_La_22 26 rfl) rfl rfl ?_
  refine kl_iload_n C (pc := 976) (kx_dd d_La_22 27 rfl) rfl rfl ?_
  refine kl_bipush C (pc := 977) (v := nI 6) (kx_dd d_La_22 28 rfl) (by decide) ?_
  refine kl_iadd C (pc := 979) (kx_dd d_La_22 29 rfl) ?_
  refine kl_sldn C (pc := 980) (7 * k + 6) hX hb hbg (by rw [nI_add]) (by omega) (by omega) (kx_dd d_La_22 30 rfl) ?_
  refine kl_invV C (pc := 981) (a := 0) (ci := 12) (as := [.int (xs (7 * k + 1)), .int (xs (7 * k + 2)), .int (xs (7 * k + 3)), .int (xs (7 * k + 4)), .int (xs (7 * k + 5)), .int (xs (7 * k + 6))]) (kx_dd d_La_22 31 rfl) ⟨lk_La_103, wi_Tc_claim, we_Tc_claim⟩ w_Tc_claim hG.k0 rfl rfl rfl rfl (Nat.le_of_ble_eq_true rfl) (st_claim hk hG (xs (7 * k + 1)) (xs (7 * k + 2)) (xs (7 * k + 3)) (xs (7 * k + 4)) (xs (7 * k + 5)) (xs (7 * k + 6))) (by decide) ⟨by omega, by omega⟩ (fun v h1 hq => ?_)
  obtain ⟨y, rfl, k84, hM⟩ := hq
  refine kl_aload_n C (pc := 984) (kx_dd d_La_22 32 rfl) rfl rfl ?_
  refine kl_aload_n C (pc := 985) (kx_dd d_La_22 33 rfl) rfl rfl ?_
  refine kl_iload_n C (pc := 986) (kx_dd d_La_22 34 rfl) rfl rfl ?_
  refine kl_iconst C (pc := 987) (v := nI 1) (kx_dd d_La_22 35 rfl) (by decide) ?_
  refine kl_iadd C (pc := 988) (kx_dd d_La_22 36 rfl) ?_
  refine kl_sldn C (pc := 989) (7 * k + 1) hX hb hbg (by rw [nI_add]) (by omega) (by omega) (kx_dd d_La_22 37 rfl) ?_
  refine kl_aload_n C (pc := 990) (kx_dd d_La_22 38 rfl) rfl rfl ?_
  refine kl_iload_n C (pc := 991) (kx_dd d_La_22 39 rfl) rfl rfl ?_
  refine kl_iconst C (pc := 992) (v := nI 2) (kx_dd d_La_22 40 rfl) (by decide) ?_
  refine kl_iadd C (pc := 993) (kx_dd d_La_22 41 rfl) ?_
  refine kl_sldn C (pc := 994) (7 * k + 2) hX hb hbg (by rw [nI_add]) (by omega) (by omega) (kx_dd d_La_22 42 rfl) ?_
  refine kl_aload_n C (pc := 995) (kx_dd d_La_22 43 rfl) rfl rfl ?_
  refine kl_iload_n C (pc := 996) (kx_dd d_La_22 44 rfl) rfl rfl ?_
  refine kl_iconst C (pc := 997) (v := nI 3) (kx_dd d_La_22 45 rfl) (by decide) ?_
  refine kl_iadd C (pc := 998) (kx_dd d_La_22 46 rfl) ?_
  refine kl_sldn C (pc := 999) (7 * k + 3) hX hb hbg (by rw [nI_add]) (by omega) (by omega) (kx_dd d_La_22 47 rfl) ?_
  refine kl_aload_n C (pc := 1000) (kx_dd d_La_22 48 rfl) rfl rfl ?_
  refine kl_iload_n C (pc := 1001) (kx_dd d_La_22 49 rfl) rfl rfl ?_
  refine kl_iconst C (pc := 1002) (v := nI 4) (kx_dd d_La_22 50 rfl) (by decide) ?_
  refine kl_iadd C (pc := 1003) (kx_dd d_La_22 51 rfl) ?_
  refine kl_sldn C (pc := 1004) (7 * k + 4) hX hb hbg (by rw [nI_add]) (by omega) (by omega) (kx_dd d_La_22 52 rfl) ?_
  refine kl_aload_n C (pc := 1005) (kx_dd d_La_22 53 rfl) rfl rfl ?_
  refine kl_iload_n C (pc := 1006) (kx_dd d_La_22 54 rfl) rfl rfl ?_
  refine kl_iconst C (pc := 1007) (v := nI 5) (kx_dd d_La_22 55 rfl) (by decide) ?_
  refine kl_iadd C (pc := 1008) (kx_dd d_La_22 56 rfl) ?_
  refine kl_sldn C (pc := 1009) (7 * k + 5) hX hb hbg (by rw [nI_add]) (by omega) (by omega) (kx_dd d_La_22 57 rfl) ?_
  refine kl_aload_n C (pc := 1010) (kx_dd d_La_22 58 rfl) rfl rfl ?_
  refine kl_iload_n C (pc := 1011) (kx_dd d_La_22 59 rfl) rfl rfl ?_
  refine kl_bipush C (pc := 1012) (v := nI 6) (kx_dd d_La_22 60 rfl) (by decide) ?_
  refine kl_iadd C (pc := 1014) (kx_dd d_La_22 61 rfl) ?_
  refine kl_sldn C (pc := 1015) (7 * k + 6) hX hb hbg (by rw [nI_add]) (by omega) (by omega) (kx_dd d_La_22 62 rfl) ?_
  refine kl_invV C (pc := 1016) (a := 84) (ci := 14) (as := [.int (xs (7 * k + 1)), .int (xs (7 * k + 2)), .int (xs (7 * k + 3)), .int (xs (7 * k + 4)), .int (xs (7 * k + 5)), .int (xs (7 * k + 6))]) (st := [.int y]) (kx_dd d_La_22 63 rfl) ⟨lk_La_107, wi_Mo_claim, we_Mo_claim⟩ w_Mo_claim k84 rfl rfl rfl rfl (Nat.le_of_ble_eq_true rfl) hM (by decide) ⟨by omega, by omega⟩ (fun v2 h2 hq2 => ?_)
  obtain ⟨rfl, hG2⟩ := hq2
  refine kl_icmp_eq C (pc := 1019) (tgt := 1785) (kx_dd d_La_22 64 rfl) (by decide) (fun _ => ?_) (fun z => absurd rfl z)
  exact kl_widen (by omega) (by omega) (kont h2 hG2)
theorem la_mark {p : Program} {l : Launch} {e : Env} {s : State} {m : MethodId} {args : Array Value} {below : List Frame} {meth : Method} {c : Code} {g : kx_G} {Q : State → Prop} {b L : Nat} {xs : Nat → Int32} (C : kx_Cx g m_La_law p s m args meth c) (hX : va_X b L xs s g.2.2.2.2) (hb : b < g.2.2.1) (hbg : kx_ad g 1000300 = b) (hL : L ≤ 3584) {k : Nat} {h : kx_Mem} (hk : k < 512) (hq7 : 7 * k + 7 ≤ L) (hG : Glob k h) (kont : ∀ h2, Glob (k + 1) h2 → kl_X p l e s m args below meth c g Q (200 + 3 * (k + 1)) (40000 + 511 * (k + 1)) 1785 [some (.ref 1000300), some (.ref 0), some (.ref 84), some (.int (nI (7 * k)))] [] h2) : kl_X p l e s m args below meth c g Q (200 + 3 * k) (40000 + 511 * k) 1024 [some (.ref 1000300), some (.ref 0), some (.ref 84), some (.int (nI (7 * k)))] [] h := by
  refine kl_aload_n C (pc := 1024) (kx_dd d_La_23 0 rfl) rfl rfl ?_
  refine kl_aload_n C (pc := 1025) (kx_dd d_La_23 1 rfl) rfl rfl ?_
  refine kl_iload_n C (pc := 1026) (kx_dd d_La_23 2 rfl) rfl rfl ?_
  refine kl_iconst C (pc := 1027) (v := nI 1) (kx_dd d_La_23 3 rfl) (by decide) ?_
  refine kl_iadd C (pc := 1028) (kx_dd d_La_23 4 rfl) ?_
  refine kl_sldn C (pc := 1029) (7 * k + 1) hX hb hbg (by rw [nI_add]) (by omega) (by omega) (kx_dd d_La_23 5 rfl) ?_
  refine kl_aload_n C (pc := 1030) (kx_dd d_La_23 6 rfl) rfl rfl ?_
  refine kl_iload_n C (pc := 1031) (kx_dd d_La_23 7 rfl) rfl rfl ?_
  refine kl_iconst C (pc := 1032) (v := nI 2) (kx_dd d_La_23 8 rfl) (by decide) ?_
  refine kl_iadd C (pc := 1033) (kx_dd d_La_23 9 rfl) ?_
  refine kl_sldn C (pc := 1034) (7 * k + 2) hX hb hbg (by rw [nI_add]) (by omega) (by omega) (kx_dd d_La_23 10 rfl) ?_
  refine kl_invV C (pc := 1035) (a := 0) (ci := 12) (as := [.int (xs (7 * k + 1)), .int (xs (7 * k + 2))]) (kx_dd d_La_23 11 rfl) ⟨lk_La_108, wi_Tc_mark, we_Tc_mark⟩ w_Tc_mark hG.k0 rfl rfl rfl rfl (Nat.le_of_ble_eq_true rfl) (st_mark hk hG (xs (7 * k + 1)) (xs (7 * k + 2))) (by decide) ⟨by omega, by omega⟩ (fun v h1 hq => ?_)
  obtain ⟨y, rfl, k84, hM⟩ := hq
  refine kl_aload_n C (pc := 1038) (kx_dd d_La_23 12 rfl) rfl rfl ?_
  refine kl_aload_n C (pc := 1039) (kx_dd d_La_23 13 rfl) rfl rfl ?_
  refine kl_iload_n C (pc := 1040) (kx_dd d_La_23 14 rfl) rfl rfl ?_
  refine kl_iconst C (pc := 1041) (v := nI 1) (kx_dd d_La_23 15 rfl) (by decide) ?_
  refine kl_iadd C (pc := 1042) (kx_dd d_La_23 16 rfl) ?_
  refine kl_sldn C (pc := 1043) (7 * k + 1) hX hb hbg (by rw [nI_add]) (by omega) (by omega) (kx_dd d_La_23 17 rfl) ?_
  refine kl_aload_n C (pc := 1044) (kx_dd d_La_23 18 rfl) rfl rfl ?_
  refine kl_iload_n C (pc := 1045) (kx_dd d_La_23 19 rfl) rfl rfl ?_
  refine kl_iconst C (pc := 1046) (v := nI 2) (kx_dd d_La_23 20 rfl) (by decide) ?_
  refine kl_iadd C (pc := 1047) (kx_dd d_La_23 21 rfl) ?_
  refine kl_sldn C (pc := 1048) (7 * k + 2) hX hb hbg (by rw [nI_add]) (by omega) (by omega) (kx_dd d_La_23 22 rfl) ?_
  refine kl_invV C (pc := 1049) (a := 84) (ci := 14) (as := [.int (xs (7 * k + 1)), .int (xs (7 * k + 2))]) (st := [.int y]) (kx_dd d_La_23 23 rfl) ⟨lk_La_111, wi_Mo_mark, we_Mo_mark⟩ w_Mo_mark k84 rfl rfl rfl rfl (Nat.le_of_ble_eq_true rfl) hM (by decide) ⟨by omega, by omega⟩ (fun v2 h2 hq2 => ?_)
  obtain ⟨rfl, hG2⟩ := hq2
  refine kl_icmp_eq C (pc := 1052) (tgt := 1785) (kx_dd d_La_23 24 rfl) (by decide) (fun _ => ?_) (fun z => absurd rfl z)
  exact kl_widen (by omega) (by omega) (kont h2 hG2)
theorem la_paper {p : Program} {l : Launch} {e : Env} {s : State} {m : MethodId} {args : Array Value} {below : List Frame} {meth : Method} {c : Code} {g : kx_G} {Q : State → Prop} {b L : Nat} {xs : Nat → Int32} (C : kx_Cx g m_La_law p s m args meth c) (hX : va_X b L xs s g.2.2.2.2) (hb : b < g.2.2.1) (hbg : kx_ad g 1000300 = b) (hL : L ≤ 3584) {k : Nat} {h : kx_Mem} (hk : k < 512) (hq7 : 7 * k + 7 ≤ L) (hG : Glob k h) (kont : ∀ h2, Glob (k + 1) h2 → kl_X p l e s m args below meth c g Q (200 + 3 * (k + 1)) (40000 + 511 * (k + 1)) 1785 [some (.ref 1000300), some (.ref 0), some (.ref 84), some (.int (nI (7 * k)))] [] h2) : kl_X p l e s m args below meth c g Q (200 + 3 * k) (40000 + 511 * k) 1057 [some (.ref 1000300), some (.ref 0), some (.ref 84), some (.int (nI (7 * k)))] [] h := by
  refine kl_aload_n C (pc := 1057) (kx_dd d_La_24 0 rfl) rfl rfl ?_
  refine kl_aload_n C (pc := 1058) (kx_dd d_La_24 1 rfl) rfl rfl ?_
  refine kl_iload_n C (pc := 1059) (kx_dd d_La_24 2 rfl) rfl rfl ?_
  refine kl_iconst C (pc := 1060) (v := nI 1) (kx_dd d_La_24 3 rfl) (by decide) ?_
  refine kl_iadd C (pc := 1061) (kx_dd d_La_24 4 rfl) ?_
  refine kl_sldn C (pc := 1062) (7 * k + 1) hX hb hbg (by rw [nI_add]) (by omega) (by omega) (kx_dd d_La_24 5 rfl) ?_
  refine kl_aload_n C (pc := 1063) (kx_dd d_La_24 6 rfl) rfl rfl ?_
  refine kl_iload_n C (pc := 1064) (kx_dd d_La_24 7 rfl) rfl rfl ?_
  refine kl_iconst C (pc := 1065) (v := nI 2) (kx_dd d_La_24 8 rfl) (by decide) ?_
  refine kl_iadd C (pc := 1066) (kx_dd d_La_24 9 rfl) ?_
  refine kl_sldn C (pc := 1067) (7 * k + 2) hX hb hbg (by rw [nI_add]) (by omega) (by omega) (kx_dd d_La_24 10 rfl) ?_
  refine kl_aload_n C (pc := 1068) (kx_dd d_La_24 11 rfl) rfl rfl ?_
  refine kl_iload_n C (pc := 1069) (kx_dd d_La_24 12 rfl) rfl rfl ?_
  refine kl_iconst C (pc := 1070) (v := nI 3) (kx_dd d_La_24 13 rfl) (by decide) ?_
  refine kl_iadd C (pc := 1071) (kx_dd d_La_24 14 rfl) ?_
  refine kl_sldn C (pc := 1072) (7 * k + 3) hX hb hbg (by rw [nI_add]) (by omega) (by omega) (kx_dd d_La_24 15 rfl) ?_
  refine kl_invV C (pc := 1073) (a := 0) (ci := 12) (as := [.int (xs (7 * k + 1)), .int (xs (7 * k + 2)), .int (xs (7 * k + 3))]) (kx_dd d_La_24 16 rfl) ⟨lk_La_112, wi_Tc_paper, we_Tc_paper⟩ w_Tc_paper hG.k0 rfl rfl rfl rfl (Nat.le_of_ble_eq_true rfl) (st_paper hk hG (xs (7 * k + 1)) (xs (7 * k + 2)) (xs (7 * k + 3))) (by decide) ⟨by omega, by omega⟩ (fun v h1 hq => ?_)
  obtain ⟨y, rfl, k84, hM⟩ := hq
  refine kl_aload_n C (pc := 1076) (kx_dd d_La_24 17 rfl) rfl rfl ?_
  refine kl_aload_n C (pc := 1077) (kx_dd d_La_24 18 rfl) rfl rfl ?_
  refine kl_iload_n C (pc := 1078) (kx_dd d_La_24 19 rfl) rfl rfl ?_
  refine kl_iconst C (pc := 1079) (v := nI 1) (kx_dd d_La_24 20 rfl) (by decide) ?_
  refine kl_iadd C (pc := 1080) (kx_dd d_La_24 21 rfl) ?_
  refine kl_sldn C (pc := 1081) (7 * k + 1) hX hb hbg (by rw [nI_add]) (by omega) (by omega) (kx_dd d_La_24 22 rfl) ?_
  refine kl_aload_n C (pc := 1082) (kx_dd d_La_24 23 rfl) rfl rfl ?_
  refine kl_iload_n C (pc := 1083) (kx_dd d_La_24 24 rfl) rfl rfl ?_
  refine kl_iconst C (pc := 1084) (v := nI 2) (kx_dd d_La_24 25 rfl) (by decide) ?_
  refine kl_iadd C (pc := 1085) (kx_dd d_La_24 26 rfl) ?_
  refine kl_sldn C (pc := 1086) (7 * k + 2) hX hb hbg (by rw [nI_add]) (by omega) (by omega) (kx_dd d_La_24 27 rfl) ?_
  refine kl_aload_n C (pc := 1087) (kx_dd d_La_24 28 rfl) rfl rfl ?_
  refine kl_iload_n C (pc := 1088) (kx_dd d_La_24 29 rfl) rfl rfl ?_
  refine kl_iconst C (pc := 1089) (v := nI 3) (kx_dd d_La_24 30 rfl) (by decide) ?_
  refine kl_iadd C (pc := 1090) (kx_dd d_La_24 31 rfl) ?_
  refine kl_sldn C (pc := 1091) (7 * k + 3) hX hb hbg (by rw [nI_add]) (by omega) (by omega) (kx_dd d_La_24 32 rfl) ?_
  refine kl_invV C (pc := 1092) (a := 84) (ci := 14) (as := [.int (xs (7 * k + 1)), .int (xs (7 * k + 2)), .int (xs (7 * k + 3))]) (st := [.int y]) (kx_dd d_La_24 33 rfl) ⟨lk_La_115, wi_Mo_paper, we_Mo_paper⟩ w_Mo_paper k84 rfl rfl rfl rfl (Nat.le_of_ble_eq_true rfl) hM (by decide) ⟨by omega, by omega⟩ (fun v2 h2 hq2 => ?_)
  obtain ⟨rfl, hG2⟩ := hq2
  refine kl_icmp_eq C (pc := 1095) (tgt := 1785) (kx_dd d_La_24 34 rfl) (by decide) (fun _ => ?_) (fun z => absurd rfl z)
  exact kl_widen (by omega) (by omega) (kont h2 hG2)
