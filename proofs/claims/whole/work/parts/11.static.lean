/-! the fixed structure: the class (objects 0 .. 83) and the reference (84 .. 153); rows with lengths -/
def rC : List (Nat × Nat × Nat) := [(0, 0, 1), (0, 1, 3), (0, 2, 13), (0, 3, 14), (0, 4, 30), (0, 5, 34), (0, 6, 39), (0, 7, 42), (0, 8, 45), (1, 0, 2), (3, 0, 1), (4, 0, 5), (4, 1, 6), (4, 3, 7), (4, 4, 8), (4, 6, 9), (4, 7, 10), (4, 10, 11), (4, 11, 12), (14, 1, 15), (14, 2, 16), (14, 4, 17), (14, 5, 18), (14, 6, 19), (14, 7, 20), (14, 8, 21), (14, 9, 22), (14, 10, 26), (22, 0, 23), (22, 1, 24), (22, 2, 25), (26, 0, 27), (26, 1, 28), (26, 2, 29), (30, 1, 31), (30, 2, 32), (30, 3, 33), (34, 1, 35), (34, 2, 36), (34, 3, 37), (34, 4, 38), (39, 0, 14), (39, 1, 34), (39, 2, 40), (39, 3, 41), (42, 0, 43), (42, 1, 44), (45, 0, 14), (45, 1, 39), (45, 4, 46), (45, 5, 47), (48, 0, 49), (48, 1, 50), (48, 3, 51), (48, 4, 52), (48, 6, 53), (48, 7, 54), (48, 10, 55), (48, 11, 56), (57, 0, 58), (57, 1, 59), (57, 3, 60), (57, 4, 61), (57, 6, 62), (57, 7, 63), (57, 10, 64), (57, 11, 65), (66, 0, 67), (66, 1, 68), (66, 3, 69), (66, 4, 70), (66, 6, 71), (66, 7, 72), (66, 10, 73), (66, 11, 74), (75, 0, 76), (75, 1, 77), (75, 3, 78), (75, 4, 79), (75, 6, 80), (75, 7, 81), (75, 10, 82), (75, 11, 83)]
def tC : List (Nat × Nat × Nat) := [(0, 13, 0), (1, 10, 0), (2, 52, 600), (3, 9, 0), (4, 8, 0), (5, 50, 11), (6, 50, 4), (7, 51, 16), (8, 50, 16), (9, 51, 10), (10, 50, 10), (11, 51, 20), (12, 50, 20), (13, 55, 4), (14, 6, 0), (15, 53, 60), (16, 50, 60), (17, 50, 200), (18, 50, 200), (19, 50, 200), (20, 50, 200), (21, 50, 200), (22, 56, 3), (23, 50, 60), (24, 50, 60), (25, 50, 60), (26, 56, 3), (27, 50, 60), (28, 50, 60), (29, 50, 60), (30, 7, 0), (31, 50, 60), (32, 50, 60), (33, 50, 60), (34, 12, 0), (35, 50, 30), (36, 50, 30), (37, 50, 30), (38, 50, 30), (39, 3, 0), (40, 1, 0), (41, 1, 0), (42, 11, 0), (43, 51, 60), (44, 50, 3), (45, 4, 0), (46, 51, 60), (47, 51, 60), (48, 8, 0), (49, 50, 11), (50, 50, 4), (51, 51, 16), (52, 50, 16), (53, 51, 10), (54, 50, 10), (55, 51, 20), (56, 50, 20), (57, 8, 0), (58, 50, 11), (59, 50, 4), (60, 51, 16), (61, 50, 16), (62, 51, 10), (63, 50, 10), (64, 51, 20), (65, 50, 20), (66, 8, 0), (67, 50, 11), (68, 50, 4), (69, 51, 16), (70, 50, 16), (71, 51, 10), (72, 50, 10), (73, 51, 20), (74, 50, 20), (75, 8, 0), (76, 50, 11), (77, 50, 4), (78, 51, 16), (79, 50, 16), (80, 51, 10), (81, 50, 10), (82, 51, 20), (83, 50, 20)]
def rM : List (Nat × Nat × Nat) := [(84, 0, 85), (84, 1, 86), (84, 3, 87), (84, 4, 88), (84, 13, 89), (84, 14, 90), (84, 15, 91), (84, 16, 92), (84, 17, 93), (84, 18, 94), (84, 19, 95), (84, 20, 96), (84, 21, 97), (84, 22, 98), (84, 23, 99), (84, 24, 100), (84, 25, 101), (84, 26, 102), (84, 27, 103), (84, 28, 104), (84, 29, 105), (84, 30, 106), (84, 39, 107), (84, 40, 108), (84, 41, 109), (84, 42, 110), (84, 43, 111), (84, 44, 112), (84, 45, 113), (84, 46, 114), (84, 47, 115), (84, 48, 116), (84, 49, 117), (84, 53, 118), (84, 54, 119), (84, 55, 120), (84, 56, 121), (84, 58, 122), (84, 59, 123), (84, 60, 124), (84, 61, 125), (84, 62, 126), (84, 63, 127), (84, 64, 128), (84, 65, 129), (84, 66, 130), (84, 67, 131), (84, 68, 132), (84, 69, 133), (84, 70, 134), (84, 71, 135), (84, 72, 136), (84, 73, 137), (84, 74, 138), (84, 75, 139), (84, 76, 140), (84, 77, 141), (84, 78, 142), (84, 79, 143), (84, 80, 144), (84, 81, 145), (84, 82, 146), (84, 83, 147), (84, 84, 148), (84, 89, 149), (84, 90, 150), (84, 91, 151), (84, 92, 152), (84, 93, 153)]
def tM : List (Nat × Nat × Nat) := [(84, 15, 0), (85, 52, 24000), (86, 50, 2000), (87, 14, 0), (88, 52, 600), (89, 50, 55), (90, 50, 20), (91, 50, 5), (92, 50, 80), (93, 50, 80), (94, 50, 5), (95, 50, 50), (96, 50, 50), (97, 50, 5), (98, 50, 50), (99, 50, 50), (100, 50, 5), (101, 50, 50), (102, 50, 50), (103, 50, 50), (104, 53, 10), (105, 53, 16), (106, 53, 4), (107, 50, 200), (108, 50, 200), (109, 50, 200), (110, 50, 200), (111, 50, 200), (112, 50, 200), (113, 50, 60), (114, 50, 60), (115, 50, 60), (116, 50, 60), (117, 53, 60), (118, 50, 30), (119, 50, 30), (120, 50, 30), (121, 50, 30), (122, 50, 60), (123, 50, 60), (124, 50, 60), (125, 50, 60), (126, 50, 60), (127, 50, 60), (128, 50, 60), (129, 50, 60), (130, 50, 60), (131, 50, 60), (132, 50, 60), (133, 50, 60), (134, 50, 60), (135, 50, 60), (136, 50, 60), (137, 50, 60), (138, 50, 60), (139, 50, 150), (140, 50, 150), (141, 50, 150), (142, 50, 150), (143, 50, 150), (144, 53, 60), (145, 50, 60), (146, 51, 60), (147, 50, 3), (148, 50, 3), (149, 50, 180), (150, 50, 180), (151, 50, 60), (152, 50, 60), (153, 51, 60)]
abbrev SC (h : kx_Mem) : Prop := kx_SS rC tC h
abbrev SM (h : kx_Mem) : Prop := kx_SS rM tM h
theorem kx_SS.t {R T : List (Nat × Nat × Nat)} {h : kx_Mem} (hs : kx_SS R T h) (k : Nat) {a c n : Nat} (hk : T[k]? = some (a, c, n)) : h.2.2.2.1 a = (c, n) := hs.2 _ (List.mem_of_getElem? hk)
section KXW
variable {f : kx_F} {cells slots pc : Nat} {lv : List (Option Value)} {st : List Value} {h : kx_Mem}
theorem kx_ialdt {a n : Nat} {i : Int32} (hk : h.2.2.2.1 a = (50, n)) (hin : vp_in i n) (hd : decode f.2.2.1.2.1 pc = .ok (.iaload, 1)) (k : kx_X f cells slots (pc + 1) lv (.int (h.1 a i.toNatClampNeg) :: st) h) : kx_X f cells slots pc lv (.int i :: .ref a :: st) h := kx_iald (by rw [hk]) (by rw [hk]; exact hin) hd k
theorem kx_ialdn {a n : Nat} {i : Int32} (q : Nat) (hk : h.2.2.2.1 a = (50, n)) (hq : i = nI q) (hqn : q < n) (hn : n < 2 ^ 31) (hd : decode f.2.2.1.2.1 pc = .ok (.iaload, 1)) (k : kx_X f cells slots (pc + 1) lv (.int (h.1 a q) :: st) h) : kx_X f cells slots pc lv (.int i :: .ref a :: st) h := by
  subst hq
  refine kx_ialdt hk (vp_in_nI hqn hn) hd ?_
  rw [nI_clamp (by omega)]
  exact k
theorem kx_laldt {a n : Nat} {i : Int32} (hk : h.2.2.2.1 a = (51, n)) (hin : vp_in i n) (hd : decode f.2.2.1.2.1 pc = .ok (.laload, 1)) (k : kx_X f cells slots (pc + 1) lv (.long (h.2.1 a i.toNatClampNeg) :: st) h) : kx_X f cells slots pc lv (.int i :: .ref a :: st) h := kx_lald (by rw [hk]) (by rw [hk]; exact hin) hd k
theorem kx_laldn {a n : Nat} {i : Int32} (q : Nat) (hk : h.2.2.2.1 a = (51, n)) (hq : i = nI q) (hqn : q < n) (hn : n < 2 ^ 31) (hd : decode f.2.2.1.2.1 pc = .ok (.laload, 1)) (k : kx_X f cells slots (pc + 1) lv (.long (h.2.1 a q) :: st) h) : kx_X f cells slots pc lv (.int i :: .ref a :: st) h := by
  subst hq
  refine kx_laldt hk (vp_in_nI hqn hn) hd ?_
  rw [nI_clamp (by omega)]
  exact k
theorem kx_baldt {a n : Nat} {i : Int32} (hk : h.2.2.2.1 a = (52, n)) (hin : vp_in i n) (hd : decode f.2.2.1.2.1 pc = .ok (.baload, 1)) (k : kx_X f cells slots (pc + 1) lv (.int (h.1 a i.toNatClampNeg) :: st) h) : kx_X f cells slots pc lv (.int i :: .ref a :: st) h := kx_bald (by rw [hk]) (by rw [hk]; exact hin) hd k
theorem kx_baldn {a n : Nat} {i : Int32} (q : Nat) (hk : h.2.2.2.1 a = (52, n)) (hq : i = nI q) (hqn : q < n) (hn : n < 2 ^ 31) (hd : decode f.2.2.1.2.1 pc = .ok (.baload, 1)) (k : kx_X f cells slots (pc + 1) lv (.int (h.1 a q) :: st) h) : kx_X f cells slots pc lv (.int i :: .ref a :: st) h := by
  subst hq
  refine kx_baldt hk (vp_in_nI hqn hn) hd ?_
  rw [nI_clamp (by omega)]
  exact k
theorem kx_zaldt {a n : Nat} {i : Int32} (hk : h.2.2.2.1 a = (53, n)) (hin : vp_in i n) (hd : decode f.2.2.1.2.1 pc = .ok (.baload, 1)) (k : kx_X f cells slots (pc + 1) lv (.int (h.1 a i.toNatClampNeg) :: st) h) : kx_X f cells slots pc lv (.int i :: .ref a :: st) h := kx_zald (by rw [hk]) (by rw [hk]; exact hin) hd k
theorem kx_zaldn {a n : Nat} {i : Int32} (q : Nat) (hk : h.2.2.2.1 a = (53, n)) (hq : i = nI q) (hqn : q < n) (hn : n < 2 ^ 31) (hd : decode f.2.2.1.2.1 pc = .ok (.baload, 1)) (k : kx_X f cells slots (pc + 1) lv (.int (h.1 a q) :: st) h) : kx_X f cells slots pc lv (.int i :: .ref a :: st) h := by
  subst hq
  refine kx_zaldt hk (vp_in_nI hqn hn) hd ?_
  rw [nI_clamp (by omega)]
  exact k
theorem kx_iastt {a n : Nat} {i : Int32} {x : Int32} (hk : h.2.2.2.1 a = (50, n)) (ha : a < 1000000) (hin : vp_in i n) (hd : decode f.2.2.1.2.1 pc = .ok (.iastore, 1)) (k : kx_X f cells slots (pc + 1) lv st (kx_setI h a i.toNatClampNeg (x))) : kx_X f cells slots pc lv (.int x :: .int i :: .ref a :: st) h := kx_iast (by rw [hk]) ha (by rw [hk]; exact hin) hd k
theorem kx_iastn {a n : Nat} {i : Int32} {x : Int32} (q : Nat) (hk : h.2.2.2.1 a = (50, n)) (ha : a < 1000000) (hq : i = nI q) (hqn : q < n) (hn : n < 2 ^ 31) (hd : decode f.2.2.1.2.1 pc = .ok (.iastore, 1)) (k : kx_X f cells slots (pc + 1) lv st (kx_setI h a q (x))) : kx_X f cells slots pc lv (.int x :: .int i :: .ref a :: st) h := by
  subst hq
  refine kx_iastt hk ha (vp_in_nI hqn hn) hd ?_
  rw [nI_clamp (by omega)]
  exact k
theorem kx_lastt {a n : Nat} {i : Int32} {x : Int64} (hk : h.2.2.2.1 a = (51, n)) (ha : a < 1000000) (hin : vp_in i n) (hd : decode f.2.2.1.2.1 pc = .ok (.lastore, 1)) (k : kx_X f cells slots (pc + 1) lv st (kx_setL h a i.toNatClampNeg (x))) : kx_X f cells slots pc lv (.long x :: .int i :: .ref a :: st) h := kx_last (by rw [hk]) ha (by rw [hk]; exact hin) hd k
theorem kx_lastn {a n : Nat} {i : Int32} {x : Int64} (q : Nat) (hk : h.2.2.2.1 a = (51, n)) (ha : a < 1000000) (hq : i = nI q) (hqn : q < n) (hn : n < 2 ^ 31) (hd : decode f.2.2.1.2.1 pc = .ok (.lastore, 1)) (k : kx_X f cells slots (pc + 1) lv st (kx_setL h a q (x))) : kx_X f cells slots pc lv (.long x :: .int i :: .ref a :: st) h := by
  subst hq
  refine kx_lastt hk ha (vp_in_nI hqn hn) hd ?_
  rw [nI_clamp (by omega)]
  exact k
theorem kx_bastt {a n : Nat} {i : Int32} {x : Int32} (hk : h.2.2.2.1 a = (52, n)) (ha : a < 1000000) (hin : vp_in i n) (hd : decode f.2.2.1.2.1 pc = .ok (.bastore, 1)) (k : kx_X f cells slots (pc + 1) lv st (kx_setI h a i.toNatClampNeg (vp_nar .byte x))) : kx_X f cells slots pc lv (.int x :: .int i :: .ref a :: st) h := kx_bast (by rw [hk]) ha (by rw [hk]; exact hin) hd k
theorem kx_bastn {a n : Nat} {i : Int32} {x : Int32} (q : Nat) (hk : h.2.2.2.1 a = (52, n)) (ha : a < 1000000) (hq : i = nI q) (hqn : q < n) (hn : n < 2 ^ 31) (hd : decode f.2.2.1.2.1 pc = .ok (.bastore, 1)) (k : kx_X f cells slots (pc + 1) lv st (kx_setI h a q (vp_nar .byte x))) : kx_X f cells slots pc lv (.int x :: .int i :: .ref a :: st) h := by
  subst hq
  refine kx_bastt hk ha (vp_in_nI hqn hn) hd ?_
  rw [nI_clamp (by omega)]
  exact k
theorem kx_zastt {a n : Nat} {i : Int32} {x : Int32} (hk : h.2.2.2.1 a = (53, n)) (ha : a < 1000000) (hin : vp_in i n) (hd : decode f.2.2.1.2.1 pc = .ok (.bastore, 1)) (k : kx_X f cells slots (pc + 1) lv st (kx_setI h a i.toNatClampNeg (vp_nar .boolean x))) : kx_X f cells slots pc lv (.int x :: .int i :: .ref a :: st) h := kx_zast (by rw [hk]) ha (by rw [hk]; exact hin) hd k
theorem kx_zastn {a n : Nat} {i : Int32} {x : Int32} (q : Nat) (hk : h.2.2.2.1 a = (53, n)) (ha : a < 1000000) (hq : i = nI q) (hqn : q < n) (hn : n < 2 ^ 31) (hd : decode f.2.2.1.2.1 pc = .ok (.bastore, 1)) (k : kx_X f cells slots (pc + 1) lv st (kx_setI h a q (vp_nar .boolean x))) : kx_X f cells slots pc lv (.int x :: .int i :: .ref a :: st) h := by
  subst hq
  refine kx_zastt hk ha (vp_in_nI hqn hn) hd ?_
  rw [nI_clamp (by omega)]
  exact k
theorem kx_aldn {a b k0 n : Nat} {i : Int32} (q : Nat) (hk : h.2.2.2.1 a = (k0, n)) (hk0 : k0 = 54 ∨ k0 = 55 ∨ k0 = 56) (hq : i = nI q) (hqn : q < n) (hn : n < 2 ^ 31) (hv : h.2.2.1 a q = some b) (hd : decode f.2.2.1.2.1 pc = .ok (.aaload, 1)) (k : kx_X f cells slots (pc + 1) lv (.ref b :: st) h) : kx_X f cells slots pc lv (.int i :: .ref a :: st) h := by
  subst hq
  exact kx_aldR (by rw [hk]) hk0 (by rw [hk]; exact vp_in_nI hqn hn) (by rw [nI_clamp (by omega)]; exact hv) hd k
end KXW
section KXV
variable {f : kx_F} {cells slots pc : Nat} {lv lv' : List (Option Value)} {st : List Value} {h : kx_Mem}
theorem kx_istore_ne {kn : Fin 4} {i : Nat} {x : Int32} (hd : decode f.2.2.1.2.1 pc = .ok (.istore_n kn, 1)) (hi : (kn : Nat) = i) (hn : i < f.2.2.1.2.2.1) (hlv : kx_s1 lv i (.int x) = lv') (k : kx_X f cells slots (pc + 1) lv' st h) : kx_X f cells slots pc lv (.int x :: st) h := kx_istore_n hd hi hn (by rw [hlv]; exact k)
theorem kx_istore_e {i : Nat} {x : Int32} (hd : decode f.2.2.1.2.1 pc = .ok (.istore i, 2)) (hn : i < f.2.2.1.2.2.1) (hlv : kx_s1 lv i (.int x) = lv') (k : kx_X f cells slots (pc + 2) lv' st h) : kx_X f cells slots pc lv (.int x :: st) h := kx_istore hd hn (by rw [hlv]; exact k)
theorem kx_lstore_ne {kn : Fin 4} {i : Nat} {x : Int64} (hd : decode f.2.2.1.2.1 pc = .ok (.lstore_n kn, 1)) (hi : (kn : Nat) = i) (hn : i + 1 < f.2.2.1.2.2.1) (hlv : kx_s2 lv i (.long x) = lv') (k : kx_X f cells slots (pc + 1) lv' st h) : kx_X f cells slots pc lv (.long x :: st) h := kx_lstore_n hd hi hn (by rw [hlv]; exact k)
theorem kx_lstore_e {i : Nat} {x : Int64} (hd : decode f.2.2.1.2.1 pc = .ok (.lstore i, 2)) (hn : i + 1 < f.2.2.1.2.2.1) (hlv : kx_s2 lv i (.long x) = lv') (k : kx_X f cells slots (pc + 2) lv' st h) : kx_X f cells slots pc lv (.long x :: st) h := kx_lstore hd hn (by rw [hlv]; exact k)
theorem kx_astore_ne {kn : Fin 4} {i : Nat} {x : Nat} (hd : decode f.2.2.1.2.1 pc = .ok (.astore_n kn, 1)) (hi : (kn : Nat) = i) (hn : i < f.2.2.1.2.2.1) (hlv : kx_s1 lv i (.ref x) = lv') (k : kx_X f cells slots (pc + 1) lv' st h) : kx_X f cells slots pc lv (.ref x :: st) h := kx_astore_n hd hi hn (by rw [hlv]; exact k)
theorem kx_astore_e {i : Nat} {x : Nat} (hd : decode f.2.2.1.2.1 pc = .ok (.astore i, 2)) (hn : i < f.2.2.1.2.2.1) (hlv : kx_s1 lv i (.ref x) = lv') (k : kx_X f cells slots (pc + 2) lv' st h) : kx_X f cells slots pc lv (.ref x :: st) h := kx_astore hd hn (by rw [hlv]; exact k)
theorem kx_astore_neN {kn : Fin 4} {i : Nat} (hd : decode f.2.2.1.2.1 pc = .ok (.astore_n kn, 1)) (hi : (kn : Nat) = i) (hn : i < f.2.2.1.2.2.1) (hlv : kx_s1 lv i .null = lv') (k : kx_X f cells slots (pc + 1) lv' st h) : kx_X f cells slots pc lv (.null :: st) h := kx_astore_nN hd hi hn (by rw [hlv]; exact k)
theorem kx_astore_eN {i : Nat} (hd : decode f.2.2.1.2.1 pc = .ok (.astore i, 2)) (hn : i < f.2.2.1.2.2.1) (hlv : kx_s1 lv i .null = lv') (k : kx_X f cells slots (pc + 2) lv' st h) : kx_X f cells slots pc lv (.null :: st) h := kx_astoreN hd hn (by rw [hlv]; exact k)
theorem kx_iinc_e {i : Nat} {n : Int} {x v : Int32} (hd : decode f.2.2.1.2.1 pc = .ok (.iinc i n, 3)) (hx : lv[i]? = some (some (.int x))) (hn : i < f.2.2.1.2.2.1) (hv : x + Int32.ofInt n = v) (hlv : kx_s1 lv i (.int v) = lv') (k : kx_X f cells slots (pc + 3) lv' st h) : kx_X f cells slots pc lv st h := kx_iinc hd hx hn hv (by rw [hlv]; exact k)
theorem kx_enter_e {l : Launch} {g : kx_G} {μ : kx_M} {as : List Value} {h : kx_Mem} {d mc ms : Nat} {Q : Option Value → kx_Mem → Prop} {lv : List (Option Value)} (hy : plainName μ.1.cls = true) (hn : (kx_arg as).length ≤ μ.2.2.1) (hlv : kx_ent μ.2.2.1 as = lv) (hX : kx_X (l, g, μ, d, mc, ms, Q) 0 0 0 lv [] h) : kx_Sp l g μ as h d mc ms Q := kx_enter hy hn (by rw [hlv]; exact hX)
end KXV
