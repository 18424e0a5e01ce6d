/-! the law's loop -/
theorem and63 (x : Int32) : ∃ t, t < 64 ∧ x &&& 63 = nI t := by
  refine ⟨(x &&& 63).toBitVec.toNat, ?_, ?_⟩
  · show (x.toBitVec &&& 63#32).toNat < 64
    rw [BitVec.toNat_and]
    exact Nat.lt_of_le_of_lt Nat.and_le_right (by decide)
  · apply Int32.toBitVec_inj.1
    show (x &&& 63).toBitVec = BitVec.ofNat 32 (x &&& 63).toBitVec.toNat
    rw [BitVec.ofNat_toNat, BitVec.setWidth_eq]
theorem law_in {L q : Nat} (hL : L ≤ 3584) (hq : q ≤ 3584) (h : ¬ nI L - nI 7 < nI q) : q + 7 ≤ L := by
  rw [Int32.lt_iff_toInt_lt, nI_toInt (by omega), pk_sub_toInt (by omega) (by omega)] at h
  omega
theorem la_step {p : Program} {l : Launch} {e : Env} {s : State} {m : MethodId} {args : Array Value} {below : List Frame} {meth : Method} {c : Code} {g : kx_G} {Q : State → Prop} {b L : Nat} {xs : Nat → Int32} (C : kx_Cx g m_La_law p s m args meth c) (hX : va_X b L xs s g.2.2.2.2) (hb : b < g.2.2.1) (hbg : kx_ad g 1000300 = b) (hL : L ≤ 3584) {k : Nat} {h : kx_Mem} (hk : k < 512) (hq7 : 7 * k + 7 ≤ L) (hG : Glob k h) (kont : ∀ h2, Glob (k + 1) h2 → kl_X p l e s m args below meth c g Q (200 + 3 * (k + 1)) (40000 + 511 * (k + 1)) 1785 [some (.ref 1000300), some (.ref 0), some (.ref 84), some (.int (nI (7 * k)))] [] h2) (t : Nat) (ht : t < 64) : kl_X p l e s m args below meth c g Q (200 + 3 * k) (40000 + 511 * k) 33 [some (.ref 1000300), some (.ref 0), some (.ref 84), some (.int (nI (7 * k)))] [.int (nI t)] h := by
  by_cases e0 : t = 0
  · subst e0
    exact kl_tableIn C (pc := 33) (off := 203) (tgt := 236) (kx_dd d_La_0 21 rfl) (by decide) (by decide) (by decide +kernel) (by decide) (la_feed C hX hb hbg hL (by omega) hq7 hG kont)
  by_cases e1 : t = 1
  · subst e1
    exact kl_tableIn C (pc := 33) (off := 266) (tgt := 299) (kx_dd d_La_0 21 rfl) (by decide) (by decide) (by decide +kernel) (by decide) (la_end C hX hb hbg hL (by omega) hq7 hG kont)
  by_cases e2 : t = 2
  · subst e2
    exact kl_tableIn C (pc := 33) (off := 289) (tgt := 322) (kx_dd d_La_0 21 rfl) (by decide) (by decide) (by decide +kernel) (by decide) (la_pass C hX hb hbg hL (by omega) hq7 hG kont)
  by_cases e3 : t = 3
  · subst e3
    exact kl_tableIn C (pc := 33) (off := 312) (tgt := 345) (kx_dd d_La_0 21 rfl) (by decide) (by decide) (by decide +kernel) (by decide) (la_person C hX hb hbg hL (by omega) hq7 hG kont)
  by_cases e4 : t = 4
  · subst e4
    exact kl_tableIn C (pc := 33) (off := 325) (tgt := 358) (kx_dd d_La_0 21 rfl) (by decide) (by decide) (by decide +kernel) (by decide) (la_nation C hX hb hbg hL (by omega) hq7 hG kont)
  by_cases e5 : t = 5
  · subst e5
    exact kl_tableIn C (pc := 33) (off := 368) (tgt := 401) (kx_dd d_La_0 21 rfl) (by decide) (by decide) (by decide +kernel) (by decide) (la_dead C hX hb hbg hL (by omega) hq7 hG kont)
  by_cases e6 : t = 6
  · subst e6
    exact kl_tableIn C (pc := 33) (off := 401) (tgt := 434) (kx_dd d_La_0 21 rfl) (by decide) (by decide) (by decide +kernel) (by decide) (la_heir C hX hb hbg hL (by omega) hq7 hG kont)
  by_cases e7 : t = 7
  · subst e7
    exact kl_tableIn C (pc := 33) (off := 444) (tgt := 477) (kx_dd d_La_0 21 rfl) (by decide) (by decide) (by decide +kernel) (by decide) (la_nationOn C hX hb hbg hL (by omega) hq7 hG kont)
  by_cases e8 : t = 8
  · subst e8
    exact kl_tableIn C (pc := 33) (off := 487) (tgt := 520) (kx_dd d_La_0 21 rfl) (by decide) (by decide) (by decide +kernel) (by decide) (la_deadOn C hX hb hbg hL (by omega) hq7 hG kont)
  by_cases e9 : t = 9
  · subst e9
    exact kl_tableIn C (pc := 33) (off := 530) (tgt := 563) (kx_dd d_La_0 21 rfl) (by decide) (by decide) (by decide +kernel) (by decide) (la_heirOn C hX hb hbg hL (by omega) hq7 hG kont)
  by_cases e10 : t = 10
  · subst e10
    exact kl_tableIn C (pc := 33) (off := 583) (tgt := 616) (kx_dd d_La_0 21 rfl) (by decide) (by decide) (by decide +kernel) (by decide) (la_rate C hX hb hbg hL (by omega) hq7 hG kont)
  by_cases e11 : t = 11
  · subst e11
    exact kl_tableIn C (pc := 33) (off := 626) (tgt := 659) (kx_dd d_La_0 21 rfl) (by decide) (by decide) (by decide +kernel) (by decide) (la_rateOn C hX hb hbg hL (by omega) hq7 hG kont)
  by_cases e12 : t = 12
  · subst e12
    exact kl_tableIn C (pc := 33) (off := 659) (tgt := 692) (kx_dd d_La_0 21 rfl) (by decide) (by decide) (by decide +kernel) (by decide) (la_sides C hX hb hbg hL (by omega) hq7 hG kont)
  by_cases e13 : t = 13
  · subst e13
    exact kl_tableIn C (pc := 33) (off := 692) (tgt := 725) (kx_dd d_La_0 21 rfl) (by decide) (by decide) (by decide +kernel) (by decide) (la_rules C hX hb hbg hL (by omega) hq7 hG kont)
  by_cases e14 : t = 14
  · subst e14
    exact kl_tableIn C (pc := 33) (off := 715) (tgt := 748) (kx_dd d_La_0 21 rfl) (by decide) (by decide) (by decide +kernel) (by decide) (la_fault C hX hb hbg hL (by omega) hq7 hG kont)
  by_cases e15 : t = 15
  · subst e15
    exact kl_tableIn C (pc := 33) (off := 738) (tgt := 771) (kx_dd d_La_0 21 rfl) (by decide) (by decide) (by decide +kernel) (by decide) (la_force C hX hb hbg hL (by omega) hq7 hG kont)
  by_cases e16 : t = 16
  · subst e16
    exact kl_tableIn C (pc := 33) (off := 761) (tgt := 794) (kx_dd d_La_0 21 rfl) (by decide) (by decide) (by decide +kernel) (by decide) (la_rule C hX hb hbg hL (by omega) hq7 hG kont)
  by_cases e17 : t = 17
  · subst e17
    exact kl_tableIn C (pc := 33) (off := 794) (tgt := 827) (kx_dd d_La_0 21 rfl) (by decide) (by decide) (by decide +kernel) (by decide) (la_need C hX hb hbg hL (by omega) hq7 hG kont)
  by_cases e18 : t = 18
  · subst e18
    exact kl_tableIn C (pc := 33) (off := 817) (tgt := 850) (kx_dd d_La_0 21 rfl) (by decide) (by decide) (by decide +kernel) (by decide) (la_kind C hX hb hbg hL (by omega) hq7 hG kont)
  by_cases e19 : t = 19
  · subst e19
    exact kl_tableIn C (pc := 33) (off := 840) (tgt := 873) (kx_dd d_La_0 21 rfl) (by decide) (by decide) (by decide +kernel) (by decide) (la_thing C hX hb hbg hL (by omega) hq7 hG kont)
  by_cases e20 : t = 20
  · subst e20
    exact kl_tableIn C (pc := 33) (off := 883) (tgt := 916) (kx_dd d_La_0 21 rfl) (by decide) (by decide) (by decide +kernel) (by decide) (la_lost C hX hb hbg hL (by omega) hq7 hG kont)
  by_cases e21 : t = 21
  · subst e21
    exact kl_tableIn C (pc := 33) (off := 916) (tgt := 949) (kx_dd d_La_0 21 rfl) (by decide) (by decide) (by decide +kernel) (by decide) (la_claim C hX hb hbg hL (by omega) hq7 hG kont)
  by_cases e22 : t = 22
  · subst e22
    exact kl_tableIn C (pc := 33) (off := 991) (tgt := 1024) (kx_dd d_La_0 21 rfl) (by decide) (by decide) (by decide +kernel) (by decide) (la_mark C hX hb hbg hL (by omega) hq7 hG kont)
  by_cases e23 : t = 23
  · subst e23
    exact kl_tableIn C (pc := 33) (off := 1024) (tgt := 1057) (kx_dd d_La_0 21 rfl) (by decide) (by decide) (by decide +kernel) (by decide) (la_paper C hX hb hbg hL (by omega) hq7 hG kont)
  by_cases e24 : t = 24
  · subst e24
    exact kl_tableIn C (pc := 33) (off := 1067) (tgt := 1100) (kx_dd d_La_0 21 rfl) (by decide) (by decide) (by decide +kernel) (by decide) (la_forged C hX hb hbg hL (by omega) hq7 hG kont)
  by_cases e25 : t = 25
  · subst e25
    exact kl_tableIn C (pc := 33) (off := 1100) (tgt := 1133) (kx_dd d_La_0 21 rfl) (by decide) (by decide) (by decide +kernel) (by decide) (la_fails C hX hb hbg hL (by omega) hq7 hG kont)
  by_cases e26 : t = 26
  · subst e26
    exact kl_tableIn C (pc := 33) (off := 1143) (tgt := 1176) (kx_dd d_La_0 21 rfl) (by decide) (by decide) (by decide +kernel) (by decide) (la_points C hX hb hbg hL (by omega) hq7 hG kont)
  by_cases e27 : t = 27
  · subst e27
    exact kl_tableIn C (pc := 33) (off := 1186) (tgt := 1219) (kx_dd d_La_0 21 rfl) (by decide) (by decide) (by decide +kernel) (by decide) (la_lacks C hX hb hbg hL (by omega) hq7 hG kont)
  by_cases e28 : t = 28
  · subst e28
    exact kl_tableIn C (pc := 33) (off := 1229) (tgt := 1262) (kx_dd d_La_0 21 rfl) (by decide) (by decide) (by decide +kernel) (by decide) (la_weakest C hX hb hbg hL (by omega) hq7 hG kont)
  by_cases e29 : t = 29
  · subst e29
    exact kl_tableIn C (pc := 33) (off := 1272) (tgt := 1305) (kx_dd d_La_0 21 rfl) (by decide) (by decide) (by decide +kernel) (by decide) (la_beside C hX hb hbg hL (by omega) hq7 hG kont)
  by_cases e30 : t = 30
  · subst e30
    exact kl_tableIn C (pc := 33) (off := 1305) (tgt := 1338) (kx_dd d_La_0 21 rfl) (by decide) (by decide) (by decide +kernel) (by decide) (la_withdraw C hX hb hbg hL (by omega) hq7 hG kont)
  by_cases e31 : t = 31
  · subst e31
    exact kl_tableIn C (pc := 33) (off := 1328) (tgt := 1361) (kx_dd d_La_0 21 rfl) (by decide) (by decide) (by decide +kernel) (by decide) (la_about C hX hb hbg hL (by omega) hq7 hG kont)
  by_cases e32 : t = 32
  · subst e32
    exact kl_tableIn C (pc := 33) (off := 1361) (tgt := 1394) (kx_dd d_La_0 21 rfl) (by decide) (by decide) (by decide +kernel) (by decide) (la_due C hX hb hbg hL (by omega) hq7 hG kont)
  by_cases e33 : t = 33
  · subst e33
    exact kl_tableIn C (pc := 33) (off := 1384) (tgt := 1417) (kx_dd d_La_0 21 rfl) (by decide) (by decide) (by decide +kernel) (by decide) (la_vote C hX hb hbg hL (by omega) hq7 hG kont)
  by_cases e34 : t = 34
  · subst e34
    exact kl_tableIn C (pc := 33) (off := 1427) (tgt := 1460) (kx_dd d_La_0 21 rfl) (by decide) (by decide) (by decide +kernel) (by decide) (la_umpire C hX hb hbg hL (by omega) hq7 hG kont)
  by_cases e35 : t = 35
  · subst e35
    exact kl_tableIn C (pc := 33) (off := 1476) (tgt := 1509) (kx_dd d_La_0 21 rfl) (by decide) (by decide) (by decide +kernel) (by decide) (la_lots C hX hb hbg hL (by omega) hq7 hG kont)
  by_cases e36 : t = 36
  · subst e36
    exact kl_tableIn C (pc := 33) (off := 1489) (tgt := 1522) (kx_dd d_La_0 21 rfl) (by decide) (by decide) (by decide +kernel) (by decide) (la_lot C hX hb hbg hL (by omega) hq7 hG kont)
  by_cases e37 : t = 37
  · subst e37
    exact kl_tableIn C (pc := 33) (off := 1532) (tgt := 1565) (kx_dd d_La_0 21 rfl) (by decide) (by decide) (by decide +kernel) (by decide) (la_like C hX hb hbg hL (by omega) hq7 hG kont)
  by_cases e38 : t = 38
  · subst e38
    exact kl_tableIn C (pc := 33) (off := 1565) (tgt := 1598) (kx_dd d_La_0 21 rfl) (by decide) (by decide) (by decide +kernel) (by decide) (la_tests C hX hb hbg hL (by omega) hq7 hG kont)
  by_cases e39 : t = 39
  · subst e39
    exact kl_tableIn C (pc := 33) (off := 1588) (tgt := 1621) (kx_dd d_La_0 21 rfl) (by decide) (by decide) (by decide +kernel) (by decide) (la_test C hX hb hbg hL (by omega) hq7 hG kont)
  by_cases e40 : t = 40
  · subst e40
    exact kl_tableIn C (pc := 33) (off := 1611) (tgt := 1644) (kx_dd d_La_0 21 rfl) (by decide) (by decide) (by decide +kernel) (by decide) (la_spread C hX hb hbg hL (by omega) hq7 hG kont)
  by_cases e41 : t = 41
  · subst e41
    exact kl_tableIn C (pc := 33) (off := 1634) (tgt := 1667) (kx_dd d_La_0 21 rfl) (by decide) (by decide) (by decide +kernel) (by decide) (la_again C hX hb hbg hL (by omega) hq7 hG kont)
  by_cases e42 : t = 42
  · subst e42
    exact kl_tableIn C (pc := 33) (off := 1657) (tgt := 1690) (kx_dd d_La_0 21 rfl) (by decide) (by decide) (by decide +kernel) (by decide) (la_fund C hX hb hbg hL (by omega) hq7 hG kont)
  by_cases e43 : t = 43
  · subst e43
    exact kl_tableIn C (pc := 33) (off := 1680) (tgt := 1713) (kx_dd d_La_0 21 rfl) (by decide) (by decide) (by decide +kernel) (by decide) (la_wave C hX hb hbg hL (by omega) hq7 hG kont)
  by_cases e44 : t = 44
  · subst e44
    exact kl_tableIn C (pc := 33) (off := 1693) (tgt := 1726) (kx_dd d_La_0 21 rfl) (by decide) (by decide) (by decide +kernel) (by decide) (la_last C hX hb hbg hL (by omega) hq7 hG kont)
  by_cases e45 : t = 45
  · subst e45
    exact kl_tableIn C (pc := 33) (off := 1706) (tgt := 1739) (kx_dd d_La_0 21 rfl) (by decide) (by decide) (by decide +kernel) (by decide) (la_purse C hX hb hbg hL (by omega) hq7 hG kont)
  by_cases e46 : t = 46
  · subst e46
    exact kl_tableIn C (pc := 33) (off := 1729) (tgt := 1762) (kx_dd d_La_0 21 rfl) (by decide) (by decide) (by decide +kernel) (by decide) (la_count C hX hb hbg hL (by omega) hq7 hG kont)
  refine kl_tableOut C (pc := 33) (tgt := 1785) (kx_dd d_La_0 21 rfl) (Or.inr ?_) (by decide) (kl_widen (by omega) (by omega) (kont h (hG.up hk)))
  rw [nI_toInt (by omega)]
  omega
theorem la_loop {p : Program} {l : Launch} {e : Env} {s : State} {m : MethodId} {below : List Frame} {meth : Method} {c : Code} {g : kx_G} {b L : Nat} {xs : Nat → Int32} (C : kx_Cx g m_La_law p s m #[Value.ref b] meth c) (hX : va_X b L xs s g.2.2.2.2) (hb : b < g.2.2.1) (hbg : kx_ad g 1000300 = b) (hL : L ≤ 3584) (hg : g.2.2.1 = s.heap.size) : ∀ r k h, k + r = 512 → 7 * k ≤ 3584 → Glob k h → kl_X p l e s m #[Value.ref b] below meth c g (lw_Z below #[Value.ref b] s) (200 + 3 * k) (40000 + 511 * k) 18 [some (.ref 1000300), some (.ref 0), some (.ref 84), some (.int (nI (7 * k)))] [] h := by
  intro r
  induction r with
  | zero =>
    intro k h hkr hk7 hG
    refine kl_iload_n C (pc := 18) (kx_dd d_La_0 10 rfl) rfl rfl ?_
    refine kl_aload_n C (pc := 19) (kx_dd d_La_0 11 rfl) rfl rfl ?_
    refine kl_slen C (pc := 20) hX hb hbg (kx_dd d_La_0 12 rfl) ?_
    refine kl_bipush C (pc := 21) (v := nI 7) (kx_dd d_La_0 13 rfl) (by decide) ?_
    refine kl_isub C (pc := 23) (kx_dd d_La_0 14 rfl) ?_
    refine kl_icmp_gt C (pc := 24) (tgt := 1791) (kx_dd d_La_0 15 rfl) (by decide) (fun _ => ?_) (fun z => absurd (law_in hL hk7 z) (by omega))
    refine kl_iconst C (pc := 1791) (v := 1) (kx_dd d_La_48 2 rfl) (by decide) ?_
    exact kl_end C hg (by omega) (by omega) (kx_dd d_La_48 3 rfl)
  | succ r ih =>
    intro k h hkr hk7 hG
    refine kl_iload_n C (pc := 18) (kx_dd d_La_0 10 rfl) rfl rfl ?_
    refine kl_aload_n C (pc := 19) (kx_dd d_La_0 11 rfl) rfl rfl ?_
    refine kl_slen C (pc := 20) hX hb hbg (kx_dd d_La_0 12 rfl) ?_
    refine kl_bipush C (pc := 21) (v := nI 7) (kx_dd d_La_0 13 rfl) (by decide) ?_
    refine kl_isub C (pc := 23) (kx_dd d_La_0 14 rfl) ?_
    refine kl_icmp_gt C (pc := 24) (tgt := 1791) (kx_dd d_La_0 15 rfl) (by decide) (fun _ => ?_) (fun z => ?_)
    · refine kl_iconst C (pc := 1791) (v := 1) (kx_dd d_La_48 2 rfl) (by decide) ?_
      exact kl_end C hg (by omega) (by omega) (kx_dd d_La_48 3 rfl)
    · have hq7 := law_in hL hk7 z
      refine kl_aload_n C (pc := 27) (kx_dd d_La_0 16 rfl) rfl rfl ?_
      refine kl_iload_n C (pc := 28) (kx_dd d_La_0 17 rfl) rfl rfl ?_
      refine kl_sldn C (pc := 29) (7 * k) hX hb hbg rfl (by omega) (by omega) (kx_dd d_La_0 18 rfl) ?_
      refine kl_bipush C (pc := 30) (v := 63) (kx_dd d_La_0 19 rfl) (by decide) ?_
      refine kl_iand C (pc := 32) (kx_dd d_La_0 20 rfl) ?_
      obtain ⟨t, ht, et⟩ := and63 (xs (7 * k))
      rw [et]
      refine la_step C hX hb hbg hL (by omega) hq7 hG (fun h2 hG2 => ?_) t ht
      refine kl_iinc_e C (pc := 1785) (v := nI (7 * (k + 1))) (lv' := [some (.ref 1000300), some (.ref 0), some (.ref 84), some (.int (nI (7 * (k + 1))))]) (kx_dd d_La_48 0 rfl) rfl (by decide) (by rw [show Int32.ofInt 7 = nI 7 from by decide, nI_add]; rfl) rfl ?_
      refine kl_goto C (pc := 1788) (tgt := 18) (kx_dd d_La_48 1 rfl) (by decide) ?_
      exact ih (k + 1) h2 (by omega) (by omega) hG2
