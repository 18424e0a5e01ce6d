/-! the law's cases, on -/
theorem la_forged {p : Program} {l : Launch} {e : Env} {s : State} {m : MethodId} {args : Array Value} {below : List Frame} {meth : Method} {c : Code} {g : kx_G} {Q : State → Prop} {b L : Nat} {xs : Nat → Int32} (C : kx_Cx g m_La_law p s m args meth c) (hX : va_X b L xs s g.2.2.2.2) (hb : b < g.2.2.1) (hbg : kx_ad g 1000300 = b) (hL : L ≤ 3584) {k : Nat} {h : kx_Mem} (hk : k < 512) (hq7 : 7 * k + 7 ≤ L) (hG : Glob k h) (kont : ∀ h2, Glob (k + 1) h2 → kl_X p l e s m args below meth c g Q (200 + 3 * (k + 1)) (40000 + 511 * (k + 1)) 1785 [some (.ref 1000300), some (.ref 0), some (.ref 84), some (.int (nI (7 * k)))] [] h2) : kl_X p l e s m args below meth c g Q (200 + 3 * k) (40000 + 511 * k) 1100 [some (.ref 1000300), some (.ref 0), some (.ref 84), some (.int (nI (7 * k)))] [] h := by
  refine kl_aload_n C (pc := 1100) (kx_dd d_La_25 0 rfl) rfl rfl ?_
  refine kl_aload_n C (pc := 1101) (kx_dd d_La_25 1 rfl) rfl rfl ?_
  refine kl_iload_n C (pc := 1102) (kx_dd d_La_25 2 rfl) rfl rfl ?_
  refine kl_iconst C (pc := 1103) (v := nI 1) (kx_dd d_La_25 3 rfl) (by decide) ?_
  refine kl_iadd C (pc := 1104) (kx_dd d_La_25 4 rfl) ?_
  refine kl_sldn C (pc := 1105) (7 * k + 1) hX hb hbg (by rw [nI_add]) (by omega) (by omega) (kx_dd d_La_25 5 rfl) ?_
  refine kl_aload_n C (pc := 1106) (kx_dd d_La_25 6 rfl) rfl rfl ?_
  refine kl_iload_n C (pc := 1107) (kx_dd d_La_25 7 rfl) rfl rfl ?_
  refine kl_iconst C (pc := 1108) (v := nI 2) (kx_dd d_La_25 8 rfl) (by decide) ?_
  refine kl_iadd C (pc := 1109) (kx_dd d_La_25 9 rfl) ?_
  refine kl_sldn C (pc := 1110) (7 * k + 2) hX hb hbg (by rw [nI_add]) (by omega) (by omega) (kx_dd d_La_25 10 rfl) ?_
  refine kl_invV C (pc := 1111) (a := 0) (ci := 12) (as := [.int (xs (7 * k + 1)), .int (xs (7 * k + 2))]) (kx_dd d_La_25 11 rfl) ⟨lk_La_116, wi_Tc_forged, we_Tc_forged⟩ w_Tc_forged hG.k0 rfl rfl rfl rfl (Nat.le_of_ble_eq_true rfl) (st_forged hk hG (xs (7 * k + 1)) (xs (7 * k + 2))) (by decide) ⟨by omega, by omega⟩ (fun v h1 hq => ?_)
  obtain ⟨y, rfl, k84, hM⟩ := hq
  refine kl_aload_n C (pc := 1114) (kx_dd d_La_25 12 rfl) rfl rfl ?_
  refine kl_aload_n C (pc := 1115) (kx_dd d_La_25 13 rfl) rfl rfl ?_
  refine kl_iload_n C (pc := 1116) (kx_dd d_La_25 14 rfl) rfl rfl ?_
  refine kl_iconst C (pc := 1117) (v := nI 1) (kx_dd d_La_25 15 rfl) (by decide) ?_
  refine kl_iadd C (pc := 1118) (kx_dd d_La_25 16 rfl) ?_
  refine kl_sldn C (pc := 1119) (7 * k + 1) hX hb hbg (by rw [nI_add]) (by omega) (by omega) (kx_dd d_La_25 17 rfl) ?_
  refine kl_aload_n C (pc := 1120) (kx_dd d_La_25 18 rfl) rfl rfl ?_
  refine kl_iload_n C (pc := 1121) (kx_dd d_La_25 19 rfl) rfl rfl ?_
  refine kl_iconst C (pc := 1122) (v := nI 2) (kx_dd d_La_25 20 rfl) (by decide) ?_
  refine kl_iadd C (pc := 1123) (kx_dd d_La_25 21 rfl) ?_
  refine kl_sldn C (pc := 1124) (7 * k + 2) hX hb hbg (by rw [nI_add]) (by omega) (by omega) (kx_dd d_La_25 22 rfl) ?_
  refine kl_invV C (pc := 1125) (a := 84) (ci := 14) (as := [.int (xs (7 * k + 1)), .int (xs (7 * k + 2))]) (st := [.int y]) (kx_dd d_La_25 23 rfl) ⟨lk_La_119, wi_Mo_forged, we_Mo_forged⟩ w_Mo_forged k84 rfl rfl rfl rfl (Nat.le_of_ble_eq_true rfl) hM (by decide) ⟨by omega, by omega⟩ (fun v2 h2 hq2 => ?_)
  obtain ⟨rfl, hG2⟩ := hq2
  refine kl_icmp_eq C (pc := 1128) (tgt := 1785) (kx_dd d_La_25 24 rfl) (by decide) (fun _ => ?_) (fun z => absurd rfl z)
  exact kl_widen (by omega) (by omega) (kont h2 hG2)
theorem la_fails {p : Program} {l : Launch} {e : Env} {s : State} {m : MethodId} {args : Array Value} {below : List Frame} {meth : Method} {c : Code} {g : kx_G} {Q : State → Prop} {b L : Nat} {xs : Nat → Int32} (C : kx_Cx g m_La_law p s m args meth c) (hX : va_X b L xs s g.2.2.2.2) (hb : b < g.2.2.1) (hbg : kx_ad g 1000300 = b) (hL : L ≤ 3584) {k : Nat} {h : kx_Mem} (hk : k < 512) (hq7 : 7 * k + 7 ≤ L) (hG : Glob k h) (kont : ∀ h2, Glob (k + 1) h2 → kl_X p l e s m args below meth c g Q (200 + 3 * (k + 1)) (40000 + 511 * (k + 1)) 1785 [some (.ref 1000300), some (.ref 0), some (.ref 84), some (.int (nI (7 * k)))] [] h2) : kl_X p l e s m args below meth c g Q (200 + 3 * k) (40000 + 511 * k) 1133 [some (.ref 1000300), some (.ref 0), some (.ref 84), some (.int (nI (7 * k)))] [] h := by
  refine kl_aload_n C (pc := 1133) (kx_dd d_La_26 0 rfl) rfl rfl ?_
  refine kl_aload_n C (pc := 1134) (kx_dd d_La_26 1 rfl) rfl rfl ?_
  refine kl_iload_n C (pc := 1135) (kx_dd d_La_26 2 rfl) rfl rfl ?_
  refine kl_iconst C (pc := 1136) (v := nI 1) (kx_dd d_La_26 3 rfl) (by decide) ?_
  refine kl_iadd C (pc := 1137) (kx_dd d_La_26 4 rfl) ?_
  refine kl_sldn C (pc := 1138) (7 * k + 1) hX hb hbg (by rw [nI_add]) (by omega) (by omega) (kx_dd d_La_26 5 rfl) ?_
  refine kl_aload_n C (pc := 1139) (kx_dd d_La_26 6 rfl) rfl rfl ?_
  refine kl_iload_n C (pc := 1140) (kx_dd d_La_26 7 rfl) rfl rfl ?_
  refine kl_iconst C (pc := 1141) (v := nI 2) (kx_dd d_La_26 8 rfl) (by decide) ?_
  refine kl_iadd C (pc := 1142) (kx_dd d_La_26 9 rfl) ?_
  refine kl_sldn C (pc := 1143) (7 * k + 2) hX hb hbg (by rw [nI_add]) (by omega) (by omega) (kx_dd d_La_26 10 rfl) ?_
  refine kl_aload_n C (pc := 1144) (kx_dd d_La_26 11 rfl) rfl rfl ?_
  refine kl_iload_n C (pc := 1145) (kx_dd d_La_26 12 rfl) rfl rfl ?_
  refine kl_iconst C (pc := 1146) (v := nI 3) (kx_dd d_La_26 13 rfl) (by decide) ?_
  refine kl_iadd C (pc := 1147) (kx_dd d_La_26 14 rfl) ?_
  refine kl_sldn C (pc := 1148) (7 * k + 3) hX hb hbg (by rw [nI_add]) (by omega) (by omega) (kx_dd d_La_26 15 rfl) ?_
  refine kl_invV C (pc := 1149) (a := 0) (ci := 12) (as := [.int (xs (7 * k + 1)), .int (xs (7 * k + 2)), .int (xs (7 * k + 3))]) (kx_dd d_La_26 16 rfl) ⟨lk_La_120, wi_Tc_fails, we_Tc_fails⟩ w_Tc_fails hG.k0 rfl rfl rfl rfl (Nat.le_of_ble_eq_true rfl) (st_fails hk hG (xs (7 * k + 1)) (xs (7 * k + 2)) (xs (7 * k + 3))) (by decide) ⟨by omega, by omega⟩ (fun v h1 hq => ?_)
  obtain ⟨y, rfl, k84, hM⟩ := hq
  refine kl_aload_n C (pc := 1152) (kx_dd d_La_26 17 rfl) rfl rfl ?_
  refine kl_aload_n C (pc := 1153) (kx_dd d_La_26 18 rfl) rfl rfl ?_
  refine kl_iload_n C (pc := 1154) (kx_dd d_La_26 19 rfl) rfl rfl ?_
  refine kl_iconst C (pc := 1155) (v := nI 1) (kx_dd d_La_26 20 rfl) (by decide) ?_
  refine kl_iadd C (pc := 1156) (kx_dd d_La_26 21 rfl) ?_
  refine kl_sldn C (pc := 1157) (7 * k + 1) hX hb hbg (by rw [nI_add]) (by omega) (by omega) (kx_dd d_La_26 22 rfl) ?_
  refine kl_aload_n C (pc := 1158) (kx_dd d_La_26 23 rfl) rfl rfl ?_
  refine kl_iload_n C (pc := 1159) (kx_dd d_La_26 24 rfl) rfl rfl ?_
  refine kl_iconst C (pc := 1160) (v := nI 2) (kx_dd d_La_26 25 rfl) (by decide) ?_
  refine kl_iadd C (pc := 1161) (kx_dd d_La_26 26 rfl) ?_
  refine kl_sldn C (pc := 1162) (7 * k + 2) hX hb hbg (by rw [nI_add]) (by omega) (by omega) (kx_dd d_La_26 27 rfl) ?_
  refine kl_aload_n C (pc := 1163) (kx_dd d_La_26 28 rfl) rfl rfl ?_
  refine kl_iload_n C (pc := 1164) (kx_dd d_La_26 29 rfl) rfl rfl ?_
  refine kl_iconst C (pc := 1165) (v := nI 3) (kx_dd d_La_26 30 rfl) (by decide) ?_
  refine kl_iadd C (pc := 1166) (kx_dd d_La_26 31 rfl) ?_
  refine kl_sldn C (pc := 1167) (7 * k + 3) hX hb hbg (by rw [nI_add]) (by omega) (by omega) (kx_dd d_La_26 32 rfl) ?_
  refine kl_invV C (pc := 1168) (a := 84) (ci := 14) (as := [.int (xs (7 * k + 1)), .int (xs (7 * k + 2)), .int (xs (7 * k + 3))]) (st := [.int y]) (kx_dd d_La_26 33 rfl) ⟨lk_La_123, wi_Mo_fails, we_Mo_fails⟩ w_Mo_fails k84 rfl rfl rfl rfl (Nat.le_of_ble_eq_true rfl) hM (by decide) ⟨by omega, by omega⟩ (fun v2 h2 hq2 => ?_)
  obtain ⟨rfl, hG2⟩ := hq2
  refine kl_icmp_eq C (pc := 1171) (tgt := 1785) (kx_dd d_La_26 34 rfl) (by decide) (fun _ => ?_) (fun z => absurd rfl z)
  exact kl_widen (by omega) (by omega) (kont h2 hG2)
theorem la_points {p : Program} {l : Launch} {e : Env} {s : State} {m : MethodId} {args : Array Value} {below : List Frame} {meth : Method} {c : Code} {g : kx_G} {Q : State → Prop} {b L : Nat} {xs : Nat → Int32} (C : kx_Cx g m_La_law p s m args meth c) (hX : va_X b L xs s g.2.2.2.2) (hb : b < g.2.2.1) (hbg : kx_ad g 1000300 = b) (hL : L ≤ 3584) {k : Nat} {h : kx_Mem} (hk : k < 512) (hq7 : 7 * k + 7 ≤ L) (hG : Glob k h) (kont : ∀ h2, Glob (k + 1) h2 → kl_X p l e s m args below meth c g Q (200 + 3 * (k + 1)) (40000 + 511 * (k + 1)) 1785 [some (.ref 1000300), some (.ref 0), some (.ref 84), some (.int (nI (7 * k)))] [] h2) : kl_X p l e s m args below meth c g Q (200 + 3 * k) (40000 + 511 * k) 1176 [some (.ref 1000300), some (.ref 0), some (.ref 84), some (.int (nI (7 * k)))] [] h := by
  refine kl_aload_n C (pc := 1176) (kx_dd d_La_27 0 rfl) rfl rfl ?_
  refine kl_aload_n C (pc := 1177) (kx_dd d_La_27 1 rfl) rfl rfl ?_
  refine kl_iload_n C (pc := 1178) (kx_dd d_La_27 2 rfl) rfl rfl ?_
  refine kl_iconst C (pc := 1179) (v := nI 1) (kx_dd d_La_27 3 rfl) (by decide) ?_
  refine kl_iadd C (pc := 1180) (kx_dd d_La_27 4 rfl) ?_
  refine kl_sldn C (pc := 1181) (7 * k + 1) hX hb hbg (by rw [nI_add]) (by omega) (by omega) (kx_dd d_La_27 5 rfl) ?_
  refine kl_aload_n C (pc := 1182) (kx_dd d_La_27 6 rfl) rfl rfl ?_
  refine kl_iload_n C (pc := 1183) (kx_dd d_La_27 7 rfl) rfl rfl ?_
  refine kl_iconst C (pc := 1184) (v := nI 2) (kx_dd d_La_27 8 rfl) (by decide) ?_
  refine kl_iadd C (pc := 1185) (kx_dd d_La_27 9 rfl) ?_
  refine kl_sldn C (pc := 1186) (7 * k + 2) hX hb hbg (by rw [nI_add]) (by omega) (by omega) (kx_dd d_La_27 10 rfl) ?_
  refine kl_aload_n C (pc := 1187) (kx_dd d_La_27 11 rfl) rfl rfl ?_
  refine kl_iload_n C (pc := 1188) (kx_dd d_La_27 12 rfl) rfl rfl ?_
  refine kl_iconst C (pc := 1189) (v := nI 3) (kx_dd d_La_27 13 rfl) (by decide) ?_
  refine kl_iadd C (pc := 1190) (kx_dd d_La_27 14 rfl) ?_
  refine kl_sldn C (pc := 1191) (7 * k + 3) hX hb hbg (by rw [nI_add]) (by omega) (by omega) (kx_dd d_La_27 15 rfl) ?_
  refine kl_invV C (pc := 1192) (a := 0) (ci := 12) (as := [.int (xs (7 * k + 1)), .int (xs (7 * k + 2)), .int (xs (7 * k + 3))]) (kx_dd d_La_27 16 rfl) ⟨lk_La_124, wi_Tc_points, we_Tc_points⟩ w_Tc_points hG.k0 rfl rfl rfl rfl (Nat.le_of_ble_eq_true rfl) (st_points hk hG (xs (7 * k + 1)) (xs (7 * k + 2)) (xs (7 * k + 3))) (by decide) ⟨by omega, by omega⟩ (fun v h1 hq => ?_)
  obtain ⟨y, rfl, k84, hM⟩ := hq
  refine kl_aload_n C (pc := 1195) (kx_dd d_La_27 17 rfl) rfl rfl ?_
  refine kl_aload_n C (pc := 1196) (kx_dd d_La_27 18 rfl) rfl rfl ?_
  refine kl_iload_n C (pc := 1197) (kx_dd d_La_27 19 rfl) rfl rfl ?_
  refine kl_iconst C (pc := 1198) (v := nI 1) (kx_dd d_La_27 20 rfl) (by decide) ?_
  refine kl_iadd C (pc := 1199) (kx_dd d_La_27 21 rfl) ?_
  refine kl_sldn C (pc := 1200) (7 * k + 1) hX hb hbg (by rw [nI_add]) (by omega) (by omega) (kx_dd d_La_27 22 rfl) ?_
  refine kl_aload_n C (pc := 1201) (kx_dd d_La_27 23 rfl) rfl rfl ?_
  refine kl_iload_n C (pc := 1202) (kx_dd d_La_27 24 rfl) rfl rfl ?_
  refine kl_iconst C (pc := 1203) (v := nI 2) (kx_dd d_La_27 25 rfl) (by decide) ?_
  refine kl_iadd C (pc := 1204) (kx_dd d_La_27 26 rfl) ?_
  refine kl_sldn C (pc := 1205) (7 * k + 2) hX hb hbg (by rw [nI_add]) (by omega) (by omega) (kx_dd d_La_27 27 rfl) ?_
  refine kl_aload_n C (pc := 1206) (kx_dd d_La_27 28 rfl) rfl rfl ?_
  refine kl_iload_n C (pc := 1207) (kx_dd d_La_27 29 rfl) rfl rfl ?_
  refine kl_iconst C (pc := 1208) (v := nI 3) (kx_dd d_La_27 30 rfl) (by decide) ?_
  refine kl_iadd C (pc := 1209) (kx_dd d_La_27 31 rfl) ?_
  refine kl_sldn C (pc := 1210) (7 * k + 3) hX hb hbg (by rw [nI_add]) (by omega) (by omega) (kx_dd d_La_27 32 rfl) ?_
  refine kl_invV C (pc := 1211) (a := 84) (ci := 14) (as := [.int (xs (7 * k + 1)), .int (xs (7 * k + 2)), .int (xs (7 * k + 3))]) (st := [.int y]) (kx_dd d_La_27 33 rfl) ⟨lk_La_127, wi_Mo_points, we_Mo_points⟩ w_Mo_points k84 rfl rfl rfl rfl (Nat.le_of_ble_eq_true rfl) hM (by decide) ⟨by omega, by omega⟩ (fun v2 h2 hq2 => ?_)
  obtain ⟨rfl, hG2⟩ := hq2
  refine kl_icmp_eq C (pc := 1214) (tgt := 1785) (kx_dd d_La_27 34 rfl) (by decide) (fun _ => ?_) (fun z => absurd rfl z)
  exact kl_widen (by omega) (by omega) (kont h2 hG2)
theorem la_lacks {p : Program} {l : Launch} {e : Env} {s : State} {m : MethodId} {args : Array Value} {below : List Frame} {meth : Method} {c : Code} {g : kx_G} {Q : State → Prop} {b L : Nat} {xs : Nat → Int32} (C : kx_Cx g m_La_law p s m args meth c) (hX : va_X b L xs s g.2.2.2.2) (hb : b < g.2.2.1) (hbg : kx_ad g 1000300 = b) (hL : L ≤ 3584) {k : Nat} {h : kx_Mem} (hk : k < 512) (hq7 : 7 * k + 7 ≤ L) (hG : Glob k h) (kont : ∀ h2, Glob (k + 1) h2 → kl_X p l e s m args below meth c g Q (200 + 3 * (k + 1)) (40000 + 511 * (k + 1)) 1785 [some (.ref 1000300), some (.ref 0), some (.ref 84), some (.int (nI (7 * k)))] [] h2) : kl_X p l e s m args below meth c g Q (200 + 3 * k) (40000 + 511 * k) 1219 [some (.ref 1000300), some (.ref 0), some (.ref 84), some (.int (nI (7 * k)))] [] h := by
  refine kl_aload_n C (pc := 1219) (kx_dd d_La_28 0 rfl) rfl rfl ?_
  refine kl_aload_n C (pc := 1220) (kx_dd d_La_28 1 rfl) rfl rfl ?_
  refine kl_iload_n C (pc := 1221) (kx_dd d_La_28 2 rfl) rfl rfl ?_
  refine kl_iconst C (pc := 1222) (v := nI 1) (kx_dd d_La_28 3 rfl) (by decide) ?_
  refine kl_iadd C (pc := 1223) (kx_dd d_La_28 4 rfl) ?_
  refine kl_sldn C (pc := 1224) (7 * k + 1) hX hb hbg (by rw [nI_add]) (by omega) (by omega) (kx_dd d_La_28 5 rfl) ?_
  refine kl_aload_n C (pc := 1225) (kx_dd d_La_28 6 rfl) rfl rfl ?_
  refine kl_iload_n C (pc := 1226) (kx_dd d_La_28 7 rfl) rfl rfl ?_
  refine kl_iconst C (pc := 1227) (v := nI 2) (kx_dd d_La_28 8 rfl) (by decide) ?_
  refine kl_iadd C (pc := 1228) (kx_dd d_La_28 9 rfl) ?_
  refine kl_sldn C (pc := 1229) (7 * k + 2) hX hb hbg (by rw [nI_add]) (by omega) (by omega) (kx_dd d_La_28 10 rfl) ?_
  refine kl_aload_n C (pc := 1230) (kx_dd d_La_28 11 rfl) rfl rfl ?_
  refine kl_iload_n C (pc := 1231) (kx_dd d_La_28 12 rfl) rfl rfl ?_
  refine kl_iconst C (pc := 1232) (v := nI 3) (kx_dd d_La_28 13 rfl) (by decide) ?_
  refine kl_iadd C (pc := 1233) (kx_dd d_La_28 14 rfl) ?_
  refine kl_sldn C (pc := 1234) (7 * k + 3) hX hb hbg (by rw [nI_add]) (by omega) (by omega) (kx_dd d_La_28 15 rfl) ?_
  refine kl_invV C (pc := 1235) (a := 0) (ci := 12) (as := [.int (xs (7 * k + 1)), .int (xs (7 * k + 2)), .int (xs (7 * k + 3))]) (kx_dd d_La_28 16 rfl) ⟨lk_La_128, wi_Tc_lacks, we_Tc_lacks⟩ w_Tc_lacks hG.k0 rfl rfl rfl rfl (Nat.le_of_ble_eq_true rfl) (st_lacks hk hG (xs (7 * k + 1)) (xs (7 * k + 2)) (xs (7 * k + 3))) (by decide) ⟨by omega, by omega⟩ (fun v h1 hq => ?_)
  obtain ⟨y, rfl, k84, hM⟩ := hq
  refine kl_aload_n C (pc := 1238) (kx_dd d_La_28 17 rfl) rfl rfl ?_
  refine kl_aload_n C (pc := 1239) (kx_dd d_La_28 18 rfl) rfl rfl ?_
  refine kl_iload_n C (pc := 1240) (kx_dd d_La_28 19 rfl) rfl rfl ?_
  refine kl_iconst C (pc := 1241) (v := nI 1) (kx_dd d_La_28 20 rfl) (by decide) ?_
  refine kl_iadd C (pc := 1242) (kx_dd d_La_28 21 rfl) ?_
  refine kl_sldn C (pc := 1243) (7 * k + 1) hX hb hbg (by rw [nI_add]) (by omega) (by omega) (kx_dd d_La_28 22 rfl) ?_
  refine kl_aload_n C (pc := 1244) (kx_dd d_La_28 23 rfl) rfl rfl ?_
  refine kl_iload_n C (pc := 1245) (kx_dd d_La_28 24 rfl) rfl rfl ?_
  refine kl_iconst C (pc := 1246) (v := nI 2) (kx_dd d_La_28 25 rfl) (by decide) ?_
  refine kl_iadd C (pc := 1247) (kx_dd d_La_28 26 rfl) ?_
  refine kl_sldn C (pc := 1248) (7 * k + 2) hX hb hbg (by rw [nI_add]) (by omega) (by omega) (kx_dd d_La_28 27 rfl) ?_
  refine kl_aload_n C (pc := 1249) (kx_dd d_La_28 28 rfl) rfl rfl ?_
  refine kl_iload_n C (pc := 1250) (kx_dd d_La_28 29 rfl) rfl rfl ?_
  refine kl_iconst C (pc := 1251) (v := nI 3) (kx_dd d_La_28 30 rfl) (by decide) ?_
  refine kl_iadd C (pc := 1252) (kx_dd d_La_28 31 rfl) ?_
  refine kl_sldn C (pc := 1253) (7 * k + 3) hX hb hbg (by rw [nI_add]) (by omega) (by omega) (kx_dd d_La_28 32 rfl) ?_
  refine kl_invV C (pc := 1254) (a := 84) (ci := 14) (as := [.int (xs (7 * k + 1)), .int (xs (7 * k + 2)), .int (xs (7 * k + 3))]) (st := [.int y]) (kx_dd d_La_28 33 rfl) ⟨lk_La_131, wi_Mo_lacks, we_Mo_lacks⟩ w_Mo_lacks k84 rfl rfl rfl rfl (Nat.le_of_ble_eq_true rfl) hM (by decide) ⟨by omega, by omega⟩ (fun v2 h2 hq2 => ?_)
  obtain ⟨rfl, hG2⟩ := hq2
  refine kl_icmp_eq C (pc := 1257) (tgt := 1785) (kx_dd d_La_28 34 rfl) (by decide) (fun _ => ?_) (fun z => absurd rfl z)
  exact kl_widen (by omega) (by omega) (kont h2 hG2)
theorem la_weakest {p : Program} {l : Launch} {e : Env} {s : State} {m : MethodId} {args : Array Value} {below : List Frame} {meth : Method} {c : Code} {g : kx_G} {Q : State → Prop} {b L : Nat} {xs : Nat → Int32} (C : kx_Cx g m_La_law p s m args meth c) (hX : va_X b L xs s g.2.2.2.2) (hb : b < g.2.2.1) (hbg : kx_ad g 1000300 = b) (hL : L ≤ 3584) {k : Nat} {h : kx_Mem} (hk : k < 512) (hq7 : 7 * k + 7 ≤ L) (hG : Glob k h) (kont : ∀ h2, Glob (k + 1) h2 → kl_X p l e s m args below meth c g Q (200 + 3 * (k + 1)) (40000 + 511 * (k + 1)) 1785 [some (.ref 1000300), some (.ref 0), some (.ref 84), some (.int (nI (7 * k)))] [] h2) : kl_X p l e s m args below meth c g Q (200 + 3 * k) (40000 + 511 * k) 1262 [some (.ref 1000300), some (.ref 0), some (.ref 84), some (.int (nI (7 * k)))] [] h := by
  refine kl_aload_n C (pc := 1262) (kx_dd d_La_29 0 rfl) rfl rfl ?_
  refine kl_aload_n C (pc := 1263) (kx_dd d_La_29 1 rfl) rfl rfl ?_
  refine kl_iload_n C (pc := 1264) (kx_dd d_La_29 2 rfl) rfl rfl ?_
  refine kl_iconst C (pc := 1265) (v := nI 1) (kx_dd d_La_29 3 rfl) (by decide) ?_
  refine kl_iadd C (pc := 1266) (kx_dd d_La_29 4 rfl) ?_
  refine kl_sldn C (pc := 1267) (7 * k + 1) hX hb hbg (by rw [nI_add]) (by omega) (by omega) (kx_dd d_La_29 5 rfl) ?_
  refine kl_aload_n C (pc := 1268) (kx_dd d_La_29 6 rfl) rfl rfl ?_
  refine kl_iload_n C (pc := 1269) (kx_dd d_La_29 7 rfl) rfl rfl ?_
  refine kl_iconst C (pc := 1270) (v := nI 2) (kx_dd d_La_29 8 rfl) (by decide) ?_
  refine kl_iadd C (pc := 1271) (kx_dd d_La_29 9 rfl) ?_
  refine kl_sldn C (pc := 1272) (7 * k + 2) hX hb hbg (by rw [nI_add]) (by omega) (by omega) (kx_dd d_La_29 10 rfl) ?_
  refine kl_aload_n C (pc := 1273) (kx_dd d_La_29 11 rfl) rfl rfl ?_
  refine kl_iload_n C (pc := 1274) (kx_dd d_La_29 12 rfl) rfl rfl ?_
  refine kl_iconst C (pc := 1275) (v := nI 3) (kx_dd d_La_29 13 rfl) (by decide) ?_
  refine kl_iadd C (pc := 1276) (kx_dd d_La_29 14 rfl) ?_
  refine kl_sldn C (pc := 1277) (7 * k + 3) hX hb hbg (by rw [nI_add]) (by omega) (by omega) (kx_dd d_La_29 15 rfl) ?_
  refine kl_invV C (pc := 1278) (a := 0) (ci := 12) (as := [.int (xs (7 * k + 1)), .int (xs (7 * k + 2)), .int (xs (7 * k + 3))]) (kx_dd d_La_29 16 rfl) ⟨lk_La_132, wi_Tc_weakest, we_Tc_weakest⟩ w_Tc_weakest hG.k0 rfl rfl rfl rfl (Nat.le_of_ble_eq_true rfl) (st_weakest hk hG (xs (7 * k + 1)) (xs (7 * k + 2)) (xs (7 * k + 3))) (by decide) ⟨by omega, by omega⟩ (fun v h1 hq => ?_)
  obtain ⟨y, rfl, k84, hM⟩ := hq
  refine kl_aload_n C (pc := 1281) (kx_dd d_La_29 17 rfl) rfl rfl ?_
  refine kl_aload_n C (pc := 1282) (kx_dd d_La_29 18 rfl) rfl rfl ?_
  refine kl_iload_n C (pc := 1283) (kx_dd d_La_29 19 rfl) rfl rfl ?_
  refine kl_iconst C (pc := 1284) (v := nI 1) (kx_dd d_La_29 20 rfl) (by decide) ?_
  refine kl_iadd C (pc := 1285) (kx_dd d_La_29 21 rfl) ?_
  refine kl_sldn C (pc := 1286) (7 * k + 1) hX hb hbg (by rw [nI_add]) (by omega) (by omega) (kx_dd d_La_29 22 rfl) ?_
  refine kl_aload_n C (pc := 1287) (kx_dd d_La_29 23 rfl) rfl rfl ?_
  refine kl_iload_n C (pc := 1288) (kx_dd d_La_29 24 rfl) rfl rfl ?_
  refine kl_iconst C (pc := 1289) (v := nI 2) (kx_dd d_La_29 25 rfl) (by decide) ?_
  refine kl_iadd C (pc := 1290) (kx_dd d_La_29 26 rfl) ?_
  refine kl_sldn C (pc := 1291) (7 * k + 2) hX hb hbg (by rw [nI_add]) (by omega) (by omega) (kx_dd d_La_29 27 rfl) ?_
  refine kl_aload_n C (pc := 1292) (kx_dd d_La_29 28 rfl) rfl rfl ?_
  refine kl_iload_n C (pc := 1293) (kx_dd d_La_29 29 rfl) rfl rfl ?_
  refine kl_iconst C (pc := 1294) (v := nI 3) (kx_dd d_La_29 30 rfl) (by decide) ?_
  refine kl_iadd C (pc := 1295) (kx_dd d_La_29 31 rfl) ?_
  refine kl_sldn C (pc := 1296) (7 * k + 3) hX hb hbg (by rw [nI_add]) (by omega) (by omega) (kx_dd d_La_29 32 rfl) ?_
  refine kl_invV C (pc := 1297) (a := 84) (ci := 14) (as := [.int (xs (7 * k + 1)), .int (xs (7 * k + 2)), .int (xs (7 * k + 3))]) (st := [.int y]) (kx_dd d_La_29 33 rfl) ⟨lk_La_135, wi_Mo_weakest, we_Mo_weakest⟩ w_Mo_weakest k84 rfl rfl rfl rfl (Nat.le_of_ble_eq_true rfl) hM (by decide) ⟨by omega, by omega⟩ (fun v2 h2 hq2 => ?_)
  obtain ⟨rfl, hG2⟩ := hq2
  refine kl_icmp_eq C (pc := 1300) (tgt := 1785) (kx_dd d_La_29 34 rfl) (by decide) (fun _ => ?_) (fun z => absurd rfl z)
  exact kl_widen (by omega) (by omega) (kont h2 hG2)
theorem la_beside {p : Program} {l : Launch} {e : Env} {s : State} {m : MethodId} {args : Array Value} {below : List Frame} {meth : Method} {c : Code} {g : kx_G} {Q : State → Prop} {b L : Nat} {xs : Nat → Int32} (C : kx_Cx g m_La_law p s m args meth c) (hX : va_X b L xs s g.2.2.2.2) (hb : b < g.2.2.1) (hbg : kx_ad g 1000300 = b) (hL : L ≤ 3584) {k : Nat} {h : kx_Mem} (hk : k < 512) (hq7 : 7 * k + 7 ≤ L) (hG : Glob k h) (kont : ∀ h2, Glob (k + 1) h2 → kl_X p l e s m args below meth c g Q (200 + 3 * (k + 1)) (40000 + 511 * (k + 1)) 1785 [some (.ref 1000300), some (.ref 0), some (.ref 84), some (.int (nI (7 * k)))] [] h2) : kl_X p l e s m args below meth c g Q (200 + 3 * k) (40000 + 511 * k) 1305 [some (.ref 1000300), some (.ref 0), some (.ref 84), some (.int (nI (7 * k)))] [] h := by
  refine kl_aload_n C (pc := 1305) (kx_dd d_La_30 0 rfl) rfl rfl ?_
  refine kl_aload_n C (pc := 1306) (kx_dd d_La_30 1 rfl) rfl rfl ?_
  refine kl_iload_n C (pc := 1307) (kx_dd d_La_30 2 rfl) rfl rfl ?_
  refine kl_iconst C (pc := 1308) (v := nI 1) (kx_dd d_La_30 3 rfl) (by decide) ?_
  refine kl_iadd C (pc := 1309) (kx_dd d_La_30 4 rfl) ?_
  refine kl_sldn C (pc := 1310) (7 * k + 1) hX hb hbg (by rw [nI_add]) (by omega) (by omega) (kx_dd d_La_30 5 rfl) ?_
  refine kl_aload_n C (pc := 1311) (kx_dd d_La_30 6 rfl) rfl rfl ?_
  refine kl_iload_n C (pc := 1312) (kx_dd d_La_30 7 rfl) rfl rfl ?_
  refine kl_iconst C (pc := 1313) (v := nI 2) (kx_dd d_La_30 8 rfl) (by decide) ?_
  refine kl_iadd C (pc := 1314) (kx_dd d_La_30 9 rfl) ?_
  refine kl_sldn C (pc := 1315) (7 * k + 2) hX hb hbg (by rw [nI_add]) (by omega) (by omega) (kx_dd d_La_30 10 rfl) ?_
  refine kl_invV C (pc := 1316) (a := 0) (ci := 12) (as := [.int (xs (7 * k + 1)), .int (xs (7 * k + 2))]) (kx_dd d_La_30 11 rfl) ⟨lk_La_136, wi_Tc_beside, we_Tc_beside⟩ w_Tc_beside hG.k0 rfl rfl rfl rfl (Nat.le_of_ble_eq_true rfl) (st_beside hk hG (xs (7 * k + 1)) (xs (7 * k + 2))) (by decide) ⟨by omega, by omega⟩ (fun v h1 hq => ?_)
  obtain ⟨y, rfl, k84, hM⟩ := hq
  refine kl_aload_n C (pc := 1319) (kx_dd d_La_30 12 rfl) rfl rfl ?_
  refine kl_aload_n C (pc := 1320) (kx_dd d_La_30 13 rfl) rfl rfl ?_
  refine kl_iload_n C (pc := 1321) (kx_dd d_La_30 14 rfl) rfl rfl ?_
  refine kl_iconst C (pc := 1322) (v := nI 1) (kx_dd d_La_30 15 rfl) (by decide) ?_
  refine kl_iadd C (pc := 1323) (kx_dd d_La_30 16 rfl) ?_
  refine kl_sldn C (pc := 1324) (7 * k + 1) hX hb hbg (by rw [nI_add]) (by omega) (by omega) (kx_dd d_La_30 17 rfl) ?_
  refine kl_aload_n C (pc := 1325) (kx_dd d_La_30 18 rfl) rfl rfl ?_
  refine kl_iload_n C (pc := 1326) (kx_dd d_La_30 19 rfl) rfl rfl ?_
  refine kl_iconst C (pc := 1327) (v := nI 2) (kx_dd d_La_30 20 rfl) (by decide) ?_
  refine kl_iadd C (pc := 1328) (kx_dd d_La_30 21 rfl) ?_
  refine kl_sldn C (pc := 1329) (7 * k + 2) hX hb hbg (by rw [nI_add]) (by omega) (by omega) (kx_dd d_La_30 22 rfl) ?_
  refine kl_invV C (pc := 1330) (a := 84) (ci := 14) (as := [.int (xs (7 * k + 1)), .int (xs (7 * k + 2))]) (st := [.int y]) (kx_dd d_La_30 23 rfl) ⟨lk_La_139, wi_Mo_beside, we_Mo_beside⟩ w_Mo_beside k84 rfl rfl rfl rfl (Nat.le_of_ble_eq_true rfl) hM (by decide) ⟨by omega, by omega⟩ (fun v2 h2 hq2 => ?_)
  obtain ⟨rfl, hG2⟩ := hq2
  refine kl_icmp_eq C (pc := 1333) (tgt := 1785) (kx_dd d_La_30 24 rfl) (by decide) (fun _ => ?_) (fun z => absurd rfl z)
  exact kl_widen (by omega) (by omega) (kont h2 hG2)
theorem la_withdraw {p : Program} {l : Launch} {e : Env} {s : State} {m : MethodId} {args : Array Value} {below : List Frame} {meth : Method} {c : Code} {g : kx_G} {Q : State → Prop} {b L : Nat} {xs : Nat → Int32} (C : kx_Cx g m_La_law p s m args meth c) (hX : va_X b L xs s g.2.2.2.2) (hb : b < g.2.2.1) (hbg : kx_ad g 1000300 = b) (hL : L ≤ 3584) {k : Nat} {h : kx_Mem} (hk : k < 512) (hq7 : 7 * k + 7 ≤ L) (hG : Glob k h) (kont : ∀ h2, Glob (k + 1) h2 → kl_X p l e s m args below meth c g Q (200 + 3 * (k + 1)) (40000 + 511 * (k + 1)) 1785 [some (.ref 1000300), some (.ref 0), some (.ref 84), some (.int (nI (7 * k)))] [] h2) : kl_X p l e s m args below meth c g Q (200 + 3 * k) (40000 + 511 * k) 1338 [some (.ref 1000300), some (.ref 0), some (.ref 84), some (.int (nI (7 * k)))] [] h := by
  refine kl_aload_n C (pc := 1338) (kx_dd d_La_31 0 rfl) rfl rfl ?_
  refine kl_aload_n C (pc := 1339) (kx_dd d_La_31 1 rfl) rfl rfl ?_
  refine kl_iload_n C (pc := 1340) (kx_dd d_La_31 2 rfl) rfl rfl ?_
  refine kl_iconst C (pc := 1341) (v := nI 1) (kx_dd d_La_31 3 rfl) (by decide) ?_
  refine kl_iadd C (pc := 1342) (kx_dd d_La_31 4 rfl) ?_
  refine kl_sldn C (pc := 1343) (7 * k + 1) hX hb hbg (by rw [nI_add]) (by omega) (by omega) (kx_dd d_La_31 5 rfl) ?_
  refine kl_invV C (pc := 1344) (a := 0) (ci := 12) (as := [.int (xs (7 * k + 1))]) (kx_dd d_La_31 6 rfl) ⟨lk_La_140, wi_Tc_withdraw, we_Tc_withdraw⟩ w_Tc_withdraw hG.k0 rfl rfl rfl rfl (Nat.le_of_ble_eq_true rfl) (st_withdraw hk hG (xs (7 * k + 1))) (by decide) ⟨by omega, by omega⟩ (fun v h1 hq => ?_)
  obtain ⟨y, rfl, k84, hM⟩ := hq
  refine kl_aload_n C (pc := 1347) (kx_dd d_La_31 7 rfl) rfl rfl ?_
  refine kl_aload_n C (pc := 1348) (kx_dd d_La_31 8 rfl) rfl rfl ?_
  refine kl_iload_n C (pc := 1349) (kx_dd d_La_31 9 rfl) rfl rfl ?_
  refine kl_iconst C (pc := 1350) (v := nI 1) (kx_dd d_La_31 10 rfl) (by decide) ?_
  refine kl_iadd C (pc := 1351) (kx_dd d_La_31 11 rfl) ?_
  refine kl_sldn C (pc := 1352) (7 * k + 1) hX hb hbg (by rw [nI_add]) (by omega) (by omega) (kx_dd d_La_31 12 rfl) ?_
  refine kl_invV C (pc := 1353) (a := 84) (ci := 14) (as := [.int (xs (7 * k + 1))]) (st := [.int y]) (kx_dd d_La_31 13 rfl) ⟨lk_La_143, wi_Mo_withdraw, we_Mo_withdraw⟩ w_Mo_withdraw k84 rfl rfl rfl rfl (Nat.le_of_ble_eq_true rfl) hM (by decide) ⟨by omega, by omega⟩ (fun v2 h2 hq2 => ?_)
  obtain ⟨rfl, hG2⟩ := hq2
  refine kl_icmp_eq C (pc := 1356) (tgt := 1785) (kx_dd d_La_31 14 rfl) (by decide) (fun _ => ?_) (fun z => absurd rfl z)
  exact kl_widen (by omega) (by omega) (kont h2 hG2)
theorem la_about {p : Program} {l : Launch} {e : Env} {s : State} {m : MethodId} {args : Array Value} {below : List Frame} {meth : Method} {c : Code} {g : kx_G} {Q : State → Prop} {b L : Nat} {xs : Nat → Int32} (C : kx_Cx g m_La_law p s m args meth c) (hX : va_X b L xs s g.2.2.2.2) (hb : b < g.2.2.1) (hbg : kx_ad g 1000300 = b) (hL : L ≤ 3584) {k : Nat} {h : kx_Mem} (hk : k < 512) (hq7 : 7 * k + 7 ≤ L) (hG : Glob k h) (kont : ∀ h2, Glob (k + 1) h2 → kl_X p l e s m args below meth c g Q (200 + 3 * (k + 1)) (40000 + 511 * (k + 1)) 1785 [some (.ref 1000300), some (.ref 0), some (.ref 84), some (.int (nI (7 * k)))] [] h2) : kl_X p l e s m args below meth c g Q (200 + 3 * k) (40000 + 511 * k) 1361 [some (.ref 1000300), some (.ref 0), some (.ref 84), some (.int (nI (7 * k)))] [] h := by
  refine kl_aload_n C (pc := 1361) (kx_dd d_La_32 0 rfl) rfl rfl ?_
  refine kl_aload_n C (pc := 1362) (kx_dd d_La_32 1 rfl) rfl rfl ?_
  refine kl_iload_n C (pc := 1363) (kx_dd d_La_32 2 rfl) rfl rfl ?_
  refine kl_iconst C (pc := 1364) (v := nI 1) (kx_dd d_La_32 3 rfl) (by decide) ?_
  refine kl_iadd C (pc := 1365) (kx_dd d_La_32 4 rfl) ?_
  refine kl_sldn C (pc := 1366) (7 * k + 1) hX hb hbg (by rw [nI_add]) (by omega) (by omega) (kx_dd d_La_32 5 rfl) ?_
  refine kl_aload_n C (pc := 1367) (kx_dd d_La_32 6 rfl) rfl rfl ?_
  refine kl_iload_n C (pc := 1368) (kx_dd d_La_32 7 rfl) rfl rfl ?_
  refine kl_iconst C (pc := 1369) (v := nI 2) (kx_dd d_La_32 8 rfl) (by decide) ?_
  refine kl_iadd C (pc := 1370) (kx_dd d_La_32 9 rfl) ?_
  refine kl_sldn C (pc := 1371) (7 * k + 2) hX hb hbg (by rw [nI_add]) (by omega) (by omega) (kx_dd d_La_32 10 rfl) ?_
  refine kl_invV C (pc := 1372) (a := 0) (ci := 12) (as := [.int (xs (7 * k + 1)), .int (xs (7 * k + 2))]) (kx_dd d_La_32 11 rfl) ⟨lk_La_144, wi_Tc_about, we_Tc_about⟩ w_Tc_about hG.k0 rfl rfl rfl rfl (Nat.le_of_ble_eq_true rfl) (st_about hk hG (xs (7 * k + 1)) (xs (7 * k + 2))) (by decide) ⟨by omega, by omega⟩ (fun v h1 hq => ?_)
  obtain ⟨y, rfl, k84, hM⟩ := hq
  refine kl_aload_n C (pc := 1375) (kx_dd d_La_32 12 rfl) rfl rfl ?_
  refine kl_aload_n C (pc := 1376) (kx_dd d_La_32 13 rfl) rfl rfl ?_
  refine kl_iload_n C (pc := 1377) (kx_dd d_La_32 14 rfl) rfl rfl ?_
  refine kl_iconst C (pc := 1378) (v := nI 1) (kx_dd d_La_32 15 rfl) (by decide) ?_
  refine kl_iadd C (pc := 1379) (kx_dd d_La_32 16 rfl) ?_
  refine kl_sldn C (pc := 1380) (7 * k + 1) hX hb hbg (by rw [nI_add]) (by omega) (by omega) (kx_dd d_La_32 17 rfl) ?_
  refine kl_aload_n C (pc := 1381) (kx_dd d_La_32 18 rfl) rfl rfl ?_
  refine kl_iload_n C (pc := 1382) (kx_dd d_La_32 19 rfl) rfl rfl ?_
  refine kl_iconst C (pc := 1383) (v := nI 2) (kx_dd d_La_32 20 rfl) (by decide) ?_
  refine kl_iadd C (pc := 1384) (kx_dd d_La_32 21 rfl) ?_
  refine kl_sldn C (pc := 1385) (7 * k + 2) hX hb hbg (by rw [nI_add]) (by omega) (by omega) (kx_dd d_La_32 22 rfl) ?_
  refine kl_invV C (pc := 1386) (a := 84) (ci := 14) (as := [.int (xs (7 * k + 1)), .int (xs (7 * k + 2))]) (st := [.int y]) (kx_dd d_La_32 23 rfl) ⟨lk_La_147, wi_Mo_about, we_Mo_about⟩ w_Mo_about k84 rfl rfl rfl rfl (Nat.le_of_ble_eq_true rfl) hM (by decide) ⟨by omega, by omega⟩ (fun v2 h2 hq2 => ?_)
  obtain ⟨rfl, hG2⟩ := hq2
  refine kl_icmp_eq C (pc := 1389) (tgt := 1785) (kx_dd d_La_32 24 rfl) (by decide) (fun _ => ?_) (fun z => absurd rfl z)
  exact kl_widen (by omega) (by omega) (kont h2 hG2)
theorem la_due {p : Program} {l : Launch} {e : Env} {s : State} {m : MethodId} {args : Array Value} {below : List Frame} {meth : Method} {c : Code} {g : kx_G} {Q : State → Prop} {b L : Nat} {xs : Nat → Int32} (C : kx_Cx g m_La_law p s m args meth c) (hX : va_X b L xs s g.2.2.2.2) (hb : b < g.2.2.1) (hbg : kx_ad g 1000300 = b) (hL : L ≤ 3584) {k : Nat} {h : kx_Mem} (hk : k < 512) (hq7 : 7 * k + 7 ≤ L) (hG : Glob k h) (kont : ∀ h2, Glob (k + 1) h2 → kl_X p l e s m args below meth c g Q (200 + 3 * (k + 1)) (40000 + 511 * (k + 1)) 1785 [some (.ref 1000300), some (.ref 0), some (.ref 84), some (.int (nI (7 * k)))] [] h2) : kl_X p l e s m args below meth c g Q (200 + 3 * k) (40000 + 511 * k) 1394 [some (.ref 1000300), some (.ref 0), some (.ref 84), some (.int (nI (7 * k)))] [] h := by
  refine kl_aload_n C (pc := 1394) (kx_dd d_La_33 0 rfl) rfl rfl ?_
  refine kl_aload_n C (pc := 1395) (kx_dd d_La_33 1 rfl) rfl rfl ?_
  refine kl_iload_n C (pc := 1396) (kx_dd d_La_33 2 rfl) rfl rfl ?_
  refine kl_iconst C (pc := 1397) (v := nI 1) (kx_dd d_La_33 3 rfl) (by decide) ?_
  refine kl_iadd C (pc := 1398) (kx_dd d_La_33 4 rfl) ?_
  refine kl_sldn C (pc := 1399) (7 * k + 1) hX hb hbg (by rw [nI_add]) (by omega) (by omega) (kx_dd d_La_33 5 rfl) ?_
  refine kl_invV C (pc := 1400) (a := 0) (ci := 12) (as := [.int (xs (7 * k + 1))]) (kx_dd d_La_33 6 rfl) ⟨lk_La_148, wi_Tc_due, we_Tc_due⟩ w_Tc_due hG.k0 rfl rfl rfl rfl (Nat.le_of_ble_eq_true rfl) (st_due hk hG (xs (7 * k + 1))) (by decide) ⟨by omega, by omega⟩ (fun v h1 hq => ?_)
  obtain ⟨y, rfl, k84, hM⟩ := hq
  refine kl_aload_n C (pc := 1403) (kx_dd d_La_33 7 rfl) rfl rfl ?_
  refine kl_aload_n C (pc := 1404) (kx_dd d_La_33 8 rfl) rfl rfl ?_
  refine kl_iload_n C (pc := 1405) (kx_dd d_La_33 9 rfl) rfl rfl ?_
  refine kl_iconst C (pc := 1406) (v := nI 1) (kx_dd d_La_33 10 rfl) (by decide) ?_
  refine kl_iadd C (pc := 1407) (kx_dd d_La_33 11 rfl) ?_
  refine kl_sldn C (pc := 1408) (7 * k + 1) hX hb hbg (by rw [nI_add]) (by omega) (by omega) (kx_dd d_La_33 12 rfl) ?_
  refine kl_invV C (pc := 1409) (a := 84) (ci := 14) (as := [.int (xs (7 * k + 1))]) (st := [.int y]) (kx_dd d_La_33 13 rfl) ⟨lk_La_151, wi_Mo_due, we_Mo_due⟩ w_Mo_due k84 rfl rfl rfl rfl (Nat.le_of_ble_eq_true rfl) hM (by decide) ⟨by omega, by omega⟩ (fun v2 h2 hq2 => ?_)
  obtain ⟨rfl, hG2⟩ := hq2
  refine kl_icmp_eq C (pc := 1412) (tgt := 1785) (kx_dd d_La_33 14 rfl) (by decide) (fun _ => ?_) (fun z => absurd rfl z)
  exact kl_widen (by omega) (by omega) (kont h2 hG2)
theorem la_vote {p : Program} {l : Launch} {e : Env} {s : State} {m : MethodId} {args : Array Value} {below : List Frame} {meth : Method} {c : Code} {g : kx_G} {Q : State → Prop} {b L : Nat} {xs : Nat → Int32} (C : kx_Cx g m_La_law p s m args meth c) (hX : va_X b L xs s g.2.2.2.2) (hb : b < g.2.2.1) (hbg : kx_ad g 1000300 = b) (hL : L ≤ 3584) {k : Nat} {h : kx_Mem} (hk : k < 512) (hq7 : 7 * k + 7 ≤ L) (hG : Glob k h) (kont : ∀ h2, Glob (k + 1) h2 → kl_X p l e s m args below meth c g Q (200 + 3 * (k + 1)) (40000 + 511 * (k + 1)) 1785 [some (.ref 1000300), some (.ref 0), some (.ref 84), some (.int (nI (7 * k)))] [] h2) : kl_X p l e s m args below meth c g Q (200 + 3 * k) (40000 + 511 * k) 1417 [some (.ref 1000300), some (.ref 0), some (.ref 84), some (.int (nI (7 * k)))] [] h := by
  refine kl_aload_n C (pc := 1417) (kx_dd d_La_34 0 rfl) rfl rfl ?_
  refine kl_aload_n C (pc := 1418) (kx_dd d_La_34 1 rfl) rfl rfl ?_
  refine kl_iload_n C (pc := 1419) (kx_dd d_La_34 2 rfl) rfl rfl ?_
  refine kl_iconst C (pc := 1420) (v := nI 1) (kx_dd d_La_34 3 rfl) (by decide) ?_
  refine kl_iadd C (pc := 1421) (kx_dd d_La_34 4 rfl) ?_
  refine kl_sldn C (pc := 1422) (7 * k + 1) hX hb hbg (by rw [nI_add]) (by omega) (by omega) (kx_dd d_La_34 5 rfl) ?_
  refine kl_aload_n C (pc := 1423) (kx_dd d_La_34 6 rfl) rfl rfl ?_
  refine kl_iload_n C (pc := 1424) (kx_dd d_La_34 7 rfl) rfl rfl ?_
  refine kl_iconst C (pc := 1425) (v := nI 2) (kx_dd d_La_34 8 rfl) (by decide) ?_
  refine kl_iadd C (pc := 1426) (kx_dd d_La_34 9 rfl) ?_
  refine kl_sldn C (pc := 1427) (7 * k + 2) hX hb hbg (by rw [nI_add]) (by omega) (by omega) (kx_dd d_La_34 10 rfl) ?_
  refine kl_aload_n C (pc := 1428) (kx_dd d_La_34 11 rfl) rfl rfl ?_
  refine kl_iload_n C (pc := 1429) (kx_dd d_La_34 12 rfl) rfl rfl ?_
  refine kl_iconst C (pc := 1430) (v := nI 3) (kx_dd d_La_34 13 rfl) (by decide) ?_
  refine kl_iadd C (pc := 1431) (kx_dd d_La_34 14 rfl) ?_
  refine kl_sldn C (pc := 1432) (7 * k + 3) hX hb hbg (by rw [nI_add]) (by omega) (by omega) (kx_dd d_La_34 15 rfl) ?_
  refine kl_invV C (pc := 1433) (a := 0) (ci := 12) (as := [.int (xs (7 * k + 1)), .int (xs (7 * k + 2)), .int (xs (7 * k + 3))]) (kx_dd d_La_34 16 rfl) ⟨lk_La_152, wi_Tc_vote, we_Tc_vote⟩ w_Tc_vote hG.k0 rfl rfl rfl rfl (Nat.le_of_ble_eq_true rfl) (st_vote hk hG (xs (7 * k + 1)) (xs (7 * k + 2)) (xs (7 * k + 3))) (by decide) ⟨by omega, by omega⟩ (fun v h1 hq => ?_)
  obtain ⟨y, rfl, k84, hM⟩ := hq
  refine kl_aload_n C (pc := 1436) (kx_dd d_La_34 17 rfl) rfl rfl ?_
  refine kl_aload_n C (pc := 1437) (kx_dd d_La_34 18 rfl) rfl rfl ?_
  refine kl_iload_n C (pc := 1438) (kx_dd d_La_34 19 rfl) rfl rfl ?_
  refine kl_iconst C (pc := 1439) (v := nI 1) (kx_dd d_La_34 20 rfl) (by decide) ?_
  refine kl_iadd C (pc := 1440) (kx_dd d_La_34 21 rfl) ?_
  refine kl_sldn C (pc := 1441) (7 * k + 1) hX hb hbg (by rw [nI_add]) (by omega) (by omega) (kx_dd d_La_34 22 rfl) ?_
  refine kl_aload_n C (pc := 1442) (kx_dd d_La_34 23 rfl) rfl rfl ?_
  refine kl_iload_n C (pc := 1443) (kx_dd d_La_34 24 rfl) rfl rfl ?_
  refine kl_iconst C (pc := 1444) (v := nI 2) (kx_dd d_La_34 25 rfl) (by decide) ?_
  refine kl_iadd C (pc := 1445) (kx_dd d_La_34 26 rfl) ?_
  refine kl_sldn C (pc := 1446) (7 * k + 2) hX hb hbg (by rw [nI_add]) (by omega) (by omega) (kx_dd d_La_34 27 rfl) ?_
  refine kl_aload_n C (pc := 1447) (kx_dd d_La_34 28 rfl) rfl rfl ?_
  refine kl_iload_n C (pc := 1448) (kx_dd d_La_34 29 rfl) rfl rfl ?_
  refine kl_iconst C (pc := 1449) (v := nI 3) (kx_dd d_La_34 30 rfl) (by decide) ?_
  refine kl_iadd C (pc := 1450) (kx_dd d_La_34 31 rfl) ?_
  refine kl_sldn C (pc := 1451) (7 * k + 3) hX hb hbg (by rw [nI_add]) (by omega) (by omega) (kx_dd d_La_34 32 rfl) ?_
  refine kl_invV C (pc := 1452) (a := 84) (ci := 14) (as := [.int (xs (7 * k + 1)), .int (xs (7 * k + 2)), .int (xs (7 * k + 3))]) (st := [.int y]) (kx_dd d_La_34 33 rfl) ⟨lk_La_155, wi_Mo_vote, we_Mo_vote⟩ w_Mo_vote k84 rfl rfl rfl rfl (Nat.le_of_ble_eq_true rfl) hM (by decide) ⟨by omega, by omega⟩ (fun v2 h2 hq2 => ?_)
  obtain ⟨rfl, hG2⟩ := hq2
  refine kl_icmp_eq C (pc := 1455) (tgt := 1785) (kx_dd d_La_34 34 rfl) (by decide) (fun _ => ?_) (fun z => absurd rfl z)
  exact kl_widen (by omega) (by omega) (kont h2 hG2)
theorem la_umpire {p : Program} {l : Launch} {e : Env} {s : State} {m : MethodId} {args : Array Value} {below : List Frame} {meth : Method} {c : Code} {g : kx_G} {Q : State → Prop} {b L : Nat} {xs : Nat → Int32} (C : kx_Cx g m_La_law p s m args meth c) (hX : va_X b L xs s g.2.2.2.2) (hb : b < g.2.2.1) (hbg : kx_ad g 1000300 = b) (hL : L ≤ 3584) {k : Nat} {h : kx_Mem} (hk : k < 512) (hq7 : 7 * k + 7 ≤ L) (hG : Glob k h) (kont : ∀ h2, Glob (k + 1) h2 → kl_X p l e s m args below meth c g Q (200 + 3 * (k + 1)) (40000 + 511 * (k + 1)) 1785 [some (.ref 1000300), some (.ref 0), some (.ref 84), some (.int (nI (7 * k)))] [] h2) : kl_X p l e s m args below meth c g Q (200 + 3 * k) (40000 + 511 * k) 1460 [some (.ref 1000300), some (.ref 0), some (.ref 84), some (.int (nI (7 * k)))] [] h := by
  by_cases e2 : xs (7 * k + 2) = 0
  · skip
    refine kl_aload_n C (pc := 1460) (kx_dd d_La_35 0 rfl) rfl rfl ?_
    refine kl_aload_n C (pc := 1461) (kx_dd d_La_35 1 rfl) rfl rfl ?_
    refine kl_iload_n C (pc := 1462) (kx_dd d_La_35 2 rfl) rfl rfl ?_
    refine kl_iconst C (pc := 1463) (v := nI 1) (kx_dd d_La_35 3 rfl) (by decide) ?_
    refine kl_iadd C (pc := 1464) (kx_dd d_La_35 4 rfl) ?_
    refine kl_sldn C (pc := 1465) (7 * k + 1) hX hb hbg (by rw [nI_add]) (by omega) (by omega) (kx_dd d_La_35 5 rfl) ?_
    refine kl_aload_n C (pc := 1466) (kx_dd d_La_35 6 rfl) rfl rfl ?_
    refine kl_iload_n C (pc := 1467) (kx_dd d_La_35 7 rfl) rfl rfl ?_
    refine kl_iconst C (pc := 1468) (v := nI 2) (kx_dd d_La_35 8 rfl) (by decide) ?_
    refine kl_iadd C (pc := 1469) (kx_dd d_La_35 9 rfl) ?_
    refine kl_sldn C (pc := 1470) (7 * k + 2) hX hb hbg (by rw [nI_add]) (by omega) (by omega) (kx_dd d_La_35 10 rfl) ?_
    refine kl_if_eq C (pc := 1471) (tgt := 1478) (kx_dd d_La_35 11 rfl) (by decide) (fun _ => ?_) (fun z => absurd e2 z)
    refine kl_iconst C (pc := 1478) (v := bP False) (kx_dd d_La_35 14 rfl) (by simp [bP]) ?_
    refine kl_invV C (pc := 1479) (a := 0) (ci := 12) (as := [.int (xs (7 * k + 1)), .int (bP False)]) (kx_dd d_La_35 15 rfl) ⟨lk_La_156, wi_Tc_umpire, we_Tc_umpire⟩ w_Tc_umpire hG.k0 rfl rfl rfl rfl (Nat.le_of_ble_eq_true rfl) (st_umpire hk hG (xs (7 * k + 1)) False) (by decide) ⟨by omega, by omega⟩ (fun v h1 hq => ?_)
    obtain ⟨y, rfl, k84, hM⟩ := hq
    refine kl_aload_n C (pc := 1482) (kx_dd d_La_35 16 rfl) rfl rfl ?_
    refine kl_aload_n C (pc := 1483) (kx_dd d_La_35 17 rfl) rfl rfl ?_
    refine kl_iload_n C (pc := 1484) (kx_dd d_La_35 18 rfl) rfl rfl ?_
    refine kl_iconst C (pc := 1485) (v := nI 1) (kx_dd d_La_35 19 rfl) (by decide) ?_
    refine kl_iadd C (pc := 1486) (kx_dd d_La_35 20 rfl) ?_
    refine kl_sldn C (pc := 1487) (7 * k + 1) hX hb hbg (by rw [nI_add]) (by omega) (by omega) (kx_dd d_La_35 21 rfl) ?_
    refine kl_aload_n C (pc := 1488) (kx_dd d_La_35 22 rfl) rfl rfl ?_
    refine kl_iload_n C (pc := 1489) (kx_dd d_La_35 23 rfl) rfl rfl ?_
    refine kl_iconst C (pc := 1490) (v := nI 2) (kx_dd d_La_35 24 rfl) (by decide) ?_
    refine kl_iadd C (pc := 1491) (kx_dd d_La_35 25 rfl) ?_
    refine kl_sldn C (pc := 1492) (7 * k + 2) hX hb hbg (by rw [nI_add]) (by omega) (by omega) (kx_dd d_La_35 26 rfl) ?_
    refine kl_if_eq C (pc := 1493) (tgt := 1500) (kx_dd d_La_35 27 rfl) (by decide) (fun _ => ?_) (fun z => absurd e2 z)
    refine kl_iconst C (pc := 1500) (v := bP False) (kx_dd d_La_35 30 rfl) (by simp [bP]) ?_
    refine kl_invV C (pc := 1501) (a := 84) (ci := 14) (as := [.int (xs (7 * k + 1)), .int (bP False)]) (st := [.int y]) (kx_dd d_La_35 31 rfl) ⟨lk_La_160, wi_Mo_umpire, we_Mo_umpire⟩ w_Mo_umpire k84 rfl rfl rfl rfl (Nat.le_of_ble_eq_true rfl) hM (by decide) ⟨by omega, by omega⟩ (fun v2 h2 hq2 => ?_)
    obtain ⟨rfl, hG2⟩ := hq2
    refine kl_icmp_eq C (pc := 1504) (tgt := 1785) (kx_dd d_La_35 32 rfl) (by decide) (fun _ => ?_) (fun z => absurd rfl z)
    exact kl_widen (by omega) (by omega) (kont h2 hG2)
  · skip
    refine kl_aload_n C (pc := 1460) (kx_dd d_La_35 0 rfl) rfl rfl ?_
    refine kl_aload_n C (pc := 1461) (kx_dd d_La_35 1 rfl) rfl rfl ?_
    refine kl_iload_n C (pc := 1462) (kx_dd d_La_35 2 rfl) rfl rfl ?_
    refine kl_iconst C (pc := 1463) (v := nI 1) (kx_dd d_La_35 3 rfl) (by decide) ?_
    refine kl_iadd C (pc := 1464) (kx_dd d_La_35 4 rfl) ?_
    refine kl_sldn C (pc := 1465) (7 * k + 1) hX hb hbg (by rw [nI_add]) (by omega) (by omega) (kx_dd d_La_35 5 rfl) ?_
    refine kl_aload_n C (pc := 1466) (kx_dd d_La_35 6 rfl) rfl rfl ?_
    refine kl_iload_n C (pc := 1467) (kx_dd d_La_35 7 rfl) rfl rfl ?_
    refine kl_iconst C (pc := 1468) (v := nI 2) (kx_dd d_La_35 8 rfl) (by decide) ?_
    refine kl_iadd C (pc := 1469) (kx_dd d_La_35 9 rfl) ?_
    refine kl_sldn C (pc := 1470) (7 * k + 2) hX hb hbg (by rw [nI_add]) (by omega) (by omega) (kx_dd d_La_35 10 rfl) ?_
    refine kl_if_eq C (pc := 1471) (tgt := 1478) (kx_dd d_La_35 11 rfl) (by decide) (fun z => absurd z e2) (fun _ => ?_)
    refine kl_iconst C (pc := 1474) (v := bP True) (kx_dd d_La_35 12 rfl) (by simp [bP]) ?_
    refine kl_goto C (pc := 1475) (tgt := 1479) (kx_dd d_La_35 13 rfl) (by decide) ?_
    refine kl_invV C (pc := 1479) (a := 0) (ci := 12) (as := [.int (xs (7 * k + 1)), .int (bP True)]) (kx_dd d_La_35 15 rfl) ⟨lk_La_156, wi_Tc_umpire, we_Tc_umpire⟩ w_Tc_umpire hG.k0 rfl rfl rfl rfl (Nat.le_of_ble_eq_true rfl) (st_umpire hk hG (xs (7 * k + 1)) True) (by decide) ⟨by omega, by omega⟩ (fun v h1 hq => ?_)
    obtain ⟨y, rfl, k84, hM⟩ := hq
    refine kl_aload_n C (pc := 1482) (kx_dd d_La_35 16 rfl) rfl rfl ?_
    refine kl_aload_n C (pc := 1483) (kx_dd d_La_35 17 rfl) rfl rfl ?_
    refine kl_iload_n C (pc := 1484) (kx_dd d_La_35 18 rfl) rfl rfl ?_
    refine kl_iconst C (pc := 1485) (v := nI 1) (kx_dd d_La_35 19 rfl) (by decide) ?_
    refine kl_iadd C (pc := 1486) (kx_dd d_La_35 20 rfl) ?_
    refine kl_sldn C (pc := 1487) (7 * k + 1) hX hb hbg (by rw [nI_add]) (by omega) (by omega) (kx_dd d_La_35 21 rfl) ?_
    refine kl_aload_n C (pc := 1488) (kx_dd d_La_35 22 rfl) rfl rfl ?_
    refine kl_iload_n C (pc := 1489) (kx_dd d_La_35 23 rfl) rfl rfl ?_
    refine kl_iconst C (pc := 1490) (v := nI 2) (kx_dd d_La_35 24 rfl) (by decide) ?_
    refine kl_iadd C (pc := 1491) (kx_dd d_La_35 25 rfl) ?_
    refine kl_sldn C (pc := 1492) (7 * k + 2) hX hb hbg (by rw [nI_add]) (by omega) (by omega) (kx_dd d_La_35 26 rfl) ?_
    refine kl_if_eq C (pc := 1493) (tgt := 1500) (kx_dd d_La_35 27 rfl) (by decide) (fun z => absurd z e2) (fun _ => ?_)
    refine kl_iconst C (pc := 1496) (v := bP True) (kx_dd d_La_35 28 rfl) (by simp [bP]) ?_
    refine kl_goto C (pc := 1497) (tgt := 1501) (kx_dd d_La_35 29 rfl) (by decide) ?_
    refine kl_invV C (pc := 1501) (a := 84) (ci := 14) (as := [.int (xs (7 * k + 1)), .int (bP True)]) (st := [.int y]) (kx_dd d_La_35 31 rfl) ⟨lk_La_160, wi_Mo_umpire, we_Mo_umpire⟩ w_Mo_umpire k84 rfl rfl rfl rfl (Nat.le_of_ble_eq_true rfl) hM (by decide) ⟨by omega, by omega⟩ (fun v2 h2 hq2 => ?_)
    obtain ⟨rfl, hG2⟩ := hq2
    refine kl_icmp_eq C (pc := 1504) (tgt := 1785) (kx_dd d_La_35 32 rfl) (by decide) (fun _ => ?_) (fun z => absurd rfl z)
    exact kl_widen (by omega) (by omega) (kont h2 hG2)
theorem la_lots {p : Program} {l : Launch} {e : Env} {s : State} {m : MethodId} {args : Array Value} {below : List Frame} {meth : Method} {c : Code} {g : kx_G} {Q : State → Prop} {b L : Nat} {xs : Nat → Int32} (C : kx_Cx g m_La_law p s m args meth c) (hX : va_X b L xs s g.2.2.2.2) (hb : b < g.2.2.1) (hbg : kx_ad g 1000300 = b) (hL : L ≤ 3584) {k : Nat} {h : kx_Mem} (hk : k < 512) (hq7 : 7 * k + 7 ≤ L) (hG : Glob k h) (kont : ∀ h2, Glob (k + 1) h2 → kl_X p l e s m args below meth c g Q (200 + 3 * (k + 1)) (40000 + 511 * (k + 1)) 1785 [some (.ref 1000300), some (.ref 0), some (.ref 84), some (.int (nI (7 * k)))] [] h2) : kl_X p l e s m args below meth c g Q (200 + 3 * k) (40000 + 511 * k) 1509 [some (.ref 1000300), some (.ref 0), some (.ref 84), some (.int (nI (7 * k)))] [] h := by
  refine kl_aload_n C (pc := 1509) (kx_dd d_La_36 0 rfl) rfl rfl ?_
  refine kl_invV C (pc := 1510) (a := 0) (ci := 12) (as := []) (kx_dd d_La_36 1 rfl) ⟨lk_La_161, wi_Tc_lots, we_Tc_lots⟩ w_Tc_lots hG.k0 rfl rfl rfl rfl (Nat.le_of_ble_eq_true rfl) (st_lots hk hG) (by decide) ⟨by omega, by omega⟩ (fun v h1 hq => ?_)
  obtain ⟨y, rfl, k84, hM⟩ := hq
  refine kl_aload_n C (pc := 1513) (kx_dd d_La_36 2 rfl) rfl rfl ?_
  refine kl_invV C (pc := 1514) (a := 84) (ci := 14) (as := []) (st := [.int y]) (kx_dd d_La_36 3 rfl) ⟨lk_La_164, wi_Mo_lots, we_Mo_lots⟩ w_Mo_lots k84 rfl rfl rfl rfl (Nat.le_of_ble_eq_true rfl) hM (by decide) ⟨by omega, by omega⟩ (fun v2 h2 hq2 => ?_)
  obtain ⟨rfl, hG2⟩ := hq2
  refine kl_icmp_eq C (pc := 1517) (tgt := 1785) (kx_dd d_La_36 4 rfl) (by decide) (fun _ => ?_) (fun z => absurd rfl z)
  exact kl_widen (by omega) (by omega) (kont h2 hG2)
theorem la_lot {p : Program} {l : Launch} {e : Env} {s : State} {m : MethodId} {args : Array Value} {below : List Frame} {meth : Method} {c : Code} {g : kx_G} {Q : State → Prop} {b L : Nat} {xs : Nat → Int32} (C : kx_Cx g m_La_law p s m args meth c) (hX : va_X b L xs s g.2.2.2.2) (hb : b < g.2.2.1) (hbg : kx_ad g 1000300 = b) (hL : L ≤ 3584) {k : Nat} {h : kx_Mem} (hk : k < 512) (hq7 : 7 * k + 7 ≤ L) (hG : Glob k h) (kont : ∀ h2, Glob (k + 1) h2 → kl_X p l e s m args below meth c g Q (200 + 3 * (k + 1)) (40000 + 511 * (k + 1)) 1785 [some (.ref 1000300), some (.ref 0), some (.ref 84), some (.int (nI (7 * k)))] [] h2) : kl_X p l e s m args below meth c g Q (200 + 3 * k) (40000 + 511 * k) 1522 [some (.ref 1000300), some (.ref 0), some (.ref 84), some (.int (nI (7 * k)))] [] h := by
  refine kl_aload_n C (pc := 1522) (kx_dd d_La_37 0 rfl) rfl rfl ?_
  refine kl_aload_n C (pc := 1523) (kx_dd d_La_37 1 rfl) rfl rfl ?_
  refine kl_iload_n C (pc := 1524) (kx_dd d_La_37 2 rfl) rfl rfl ?_
  refine kl_iconst C (pc := 1525) (v := nI 1) (kx_dd d_La_37 3 rfl) (by decide) ?_
  refine kl_iadd C (pc := 1526) (kx_dd d_La_37 4 rfl) ?_
  refine kl_sldn C (pc := 1527) (7 * k + 1) hX hb hbg (by rw [nI_add]) (by omega) (by omega) (kx_dd d_La_37 5 rfl) ?_
  refine kl_aload_n C (pc := 1528) (kx_dd d_La_37 6 rfl) rfl rfl ?_
  refine kl_iload_n C (pc := 1529) (kx_dd d_La_37 7 rfl) rfl rfl ?_
  refine kl_iconst C (pc := 1530) (v := nI 2) (kx_dd d_La_37 8 rfl) (by decide) ?_
  refine kl_iadd C (pc := 1531) (kx_dd d_La_37 9 rfl) ?_
  refine kl_sldn C (pc := 1532) (7 * k + 2) hX hb hbg (by rw [nI_add]) (by omega) (by omega) (kx_dd d_La_37 10 rfl) ?_
  refine kl_aload_n C (pc := 1533) (kx_dd d_La_37 11 rfl) rfl rfl ?_
  refine kl_iload_n C (pc := 1534) (kx_dd d_La_37 12 rfl) rfl rfl ?_
  refine kl_iconst C (pc := 1535) (v := nI 3) (kx_dd d_La_37 13 rfl) (by decide) ?_
  refine kl_iadd C (pc := 1536) (kx_dd d_La_37 14 rfl) ?_
  refine kl_sldn C (pc := 1537) (7 * k + 3) hX hb hbg (by rw [nI_add]) (by omega) (by omega) (kx_dd d_La_37 15 rfl) ?_
  refine kl_invV C (pc := 1538) (a := 0) (ci := 12) (as := [.int (xs (7 * k + 1)), .int (xs (7 * k + 2)), .int (xs (7 * k + 3))]) (kx_dd d_La_37 16 rfl) ⟨lk_La_165, wi_Tc_lot, we_Tc_lot⟩ w_Tc_lot hG.k0 rfl rfl rfl rfl (Nat.le_of_ble_eq_true rfl) (st_lot hk hG (xs (7 * k + 1)) (xs (7 * k + 2)) (xs (7 * k + 3))) (by decide) ⟨by omega, by omega⟩ (fun v h1 hq => ?_)
  obtain ⟨y, rfl, k84, hM⟩ := hq
  refine kl_aload_n C (pc := 1541) (kx_dd d_La_37 17 rfl) rfl rfl ?_
  refine kl_aload_n C (pc := 1542) (kx_dd d_La_37 18 rfl) rfl rfl ?_
  refine kl_iload_n C (pc := 1543) (kx_dd d_La_37 19 rfl) rfl rfl ?_
  refine kl_iconst C (pc := 1544) (v := nI 1) (kx_dd d_La_37 20 rfl) (by decide) ?_
  refine kl_iadd C (pc := 1545) (kx_dd d_La_37 21 rfl) ?_
  refine kl_sldn C (pc := 1546) (7 * k + 1) hX hb hbg (by rw [nI_add]) (by omega) (by omega) (kx_dd d_La_37 22 rfl) ?_
  refine kl_aload_n C (pc := 1547) (kx_dd d_La_37 23 rfl) rfl rfl ?_
  refine kl_iload_n C (pc := 1548) (kx_dd d_La_37 24 rfl) rfl rfl ?_
  refine kl_iconst C (pc := 1549) (v := nI 2) (kx_dd d_La_37 25 rfl) (by decide) ?_
  refine kl_iadd C (pc := 1550) (kx_dd d_La_37 26 rfl) ?_
  refine kl_sldn C (pc := 1551) (7 * k + 2) hX hb hbg (by rw [nI_add]) (by omega) (by omega) (kx_dd d_La_37 27 rfl) ?_
  refine kl_aload_n C (pc := 1552) (kx_dd d_La_37 28 rfl) rfl rfl ?_
  refine kl_iload_n C (pc := 1553) (kx_dd d_La_37 29 rfl) rfl rfl ?_
  refine kl_iconst C (pc := 1554) (v := nI 3) (kx_dd d_La_37 30 rfl) (by decide) ?_
  refine kl_iadd C (pc := 1555) (kx_dd d_La_37 31 rfl) ?_
  refine kl_sldn C (pc := 1556) (7 * k + 3) hX hb hbg (by rw [nI_add]) (by omega) (by omega) (kx_dd d_La_37 32 rfl) ?_
  refine kl_invV C (pc := 1557) (a := 84) (ci := 14) (as := [.int (xs (7 * k + 1)), .int (xs (7 * k + 2)), .int (xs (7 * k + 3))]) (st := [.int y]) (kx_dd d_La_37 33 rfl) ⟨lk_La_168, wi_Mo_lot, we_Mo_lot⟩ w_Mo_lot k84 rfl rfl rfl rfl (Nat.le_of_ble_eq_true rfl) hM (by decide) ⟨by omega, by omega⟩ (fun v2 h2 hq2 => ?_)
  obtain ⟨rfl, hG2⟩ := hq2
  refine kl_icmp_eq C (pc := 1560) (tgt := 1785) (kx_dd d_La_37 34 rfl) (by decide) (fun _ => ?_) (fun z => absurd rfl z)
  exact kl_widen (by omega) (by omega) (kont h2 hG2)
theorem la_like {p : Program} {l : Launch} {e : Env} {s : State} {m : MethodId} {args : Array Value} {below : List Frame} {meth : Method} {c : Code} {g : kx_G} {Q : State → Prop} {b L : Nat} {xs : Nat → Int32} (C : kx_Cx g m_La_law p s m args meth c) (hX : va_X b L xs s g.2.2.2.2) (hb : b < g.2.2.1) (hbg : kx_ad g 1000300 = b) (hL : L ≤ 3584) {k : Nat} {h : kx_Mem} (hk : k < 512) (hq7 : 7 * k + 7 ≤ L) (hG : Glob k h) (kont : ∀ h2, Glob (k + 1) h2 → kl_X p l e s m args below meth c g Q (200 + 3 * (k + 1)) (40000 + 511 * (k + 1)) 1785 [some (.ref 1000300), some (.ref 0), some (.ref 84), some (.int (nI (7 * k)))] [] h2) : kl_X p l e s m args below meth c g Q (200 + 3 * k) (40000 + 511 * k) 1565 [some (.ref 1000300), some (.ref 0), some (.ref 84), some (.int (nI (7 * k)))] [] h := by
  refine kl_aload_n C (pc := 1565) (kx_dd d_La_38 0 rfl) rfl rfl ?_
  refine kl_aload_n C (pc := 1566) (kx_dd d_La_38 1 rfl) rfl rfl ?_
  refine kl_iload_n C (pc := 1567) (kx_dd d_La_38 2 rfl) rfl rfl ?_
  refine kl_iconst C (pc := 1568) (v := nI 1) (kx_dd d_La_38 3 rfl) (by decide) ?_
  refine kl_iadd C (pc := 1569) (kx_dd d_La_38 4 rfl) ?_
  refine kl_sldn C (pc := 1570) (7 * k + 1) hX hb hbg (by rw [nI_add]) (by omega) (by omega) (kx_dd d_La_38 5 rfl) ?_
  refine kl_aload_n C (pc := 1571) (kx_dd d_La_38 6 rfl) rfl rfl ?_
  refine kl_iload_n C (pc := 1572) (kx_dd d_La_38 7 rfl) rfl rfl ?_
  refine kl_iconst C (pc := 1573) (v := nI 2) (kx_dd d_La_38 8 rfl) (by decide) ?_
  refine kl_iadd C (pc := 1574) (kx_dd d_La_38 9 rfl) ?_
  refine kl_sldn C (pc := 1575) (7 * k + 2) hX hb hbg (by rw [nI_add]) (by omega) (by omega) (kx_dd d_La_38 10 rfl) ?_
  refine kl_invV C (pc := 1576) (a := 0) (ci := 12) (as := [.int (xs (7 * k + 1)), .int (xs (7 * k + 2))]) (kx_dd d_La_38 11 rfl) ⟨lk_La_169, wi_Tc_like, we_Tc_like⟩ w_Tc_like hG.k0 rfl rfl rfl rfl (Nat.le_of_ble_eq_true rfl) (st_like hk hG (xs (7 * k + 1)) (xs (7 * k + 2))) (by decide) ⟨by omega, by omega⟩ (fun v h1 hq => ?_)
  obtain ⟨y, rfl, k84, hM⟩ := hq
  refine kl_aload_n C (pc := 1579) (kx_dd d_La_38 12 rfl) rfl rfl ?_
  refine kl_aload_n C (pc := 1580) (kx_dd d_La_38 13 rfl) rfl rfl ?_
  refine kl_iload_n C (pc := 1581) (kx_dd d_La_38 14 rfl) rfl rfl ?_
  refine kl_iconst C (pc := 1582) (v := nI 1) (kx_dd d_La_38 15 rfl) (by decide) ?_
  refine kl_iadd C (pc := 1583) (kx_dd d_La_38 16 rfl) ?_
  refine kl_sldn C (pc := 1584) (7 * k + 1) hX hb hbg (by rw [nI_add]) (by omega) (by omega) (kx_dd d_La_38 17 rfl) ?_
  refine kl_aload_n C (pc := 1585) (kx_dd d_La_38 18 rfl) rfl rfl ?_
  refine kl_iload_n C (pc := 1586) (kx_dd d_La_38 19 rfl) rfl rfl ?_
  refine kl_iconst C (pc := 1587) (v := nI 2) (kx_dd d_La_38 20 rfl) (by decide) ?_
  refine kl_iadd C (pc := 1588) (kx_dd d_La_38 21 rfl) ?_
  refine kl_sldn C (pc := 1589) (7 * k + 2) hX hb hbg (by rw [nI_add]) (by omega) (by omega) (kx_dd d_La_38 22 rfl) ?_
  refine kl_invV C (pc := 1590) (a := 84) (ci := 14) (as := [.int (xs (7 * k + 1)), .int (xs (7 * k + 2))]) (st := [.int y]) (kx_dd d_La_38 23 rfl) ⟨lk_La_172, wi_Mo_like, we_Mo_like⟩ w_Mo_like k84 rfl rfl rfl rfl (Nat.le_of_ble_eq_true rfl) hM (by decide) ⟨by omega, by omega⟩ (fun v2 h2 hq2 => ?_)
  obtain ⟨rfl, hG2⟩ := hq2
  refine kl_icmp_eq C (pc := 1593) (tgt := 1785) (kx_dd d_La_38 24 rfl) (by decide) (fun _ => ?_) (fun z => absurd rfl z)
  exact kl_widen (by omega) (by omega) (kont h2 hG2)
theorem la_tests {p : Program} {l : Launch} {e : Env} {s : State} {m : MethodId} {args : Array Value} {below : List Frame} {meth : Method} {c : Code} {g : kx_G} {Q : State → Prop} {b L : Nat} {xs : Nat → Int32} (C : kx_Cx g m_La_law p s m args meth c) (hX : va_X b L xs s g.2.2.2.2) (hb : b < g.2.2.1) (hbg : kx_ad g 1000300 = b) (hL : L ≤ 3584) {k : Nat} {h : kx_Mem} (hk : k < 512) (hq7 : 7 * k + 7 ≤ L) (hG : Glob k h) (kont : ∀ h2, Glob (k + 1) h2 → kl_X p l e s m args below meth c g Q (200 + 3 * (k + 1)) (40000 + 511 * (k + 1)) 1785 [some (.ref 1000300), some (.ref 0), some (.ref 84), some (.int (nI (7 * k)))] [] h2) : kl_X p l e s m args below meth c g Q (200 + 3 * k) (40000 + 511 * k) 1598 [some (.ref 1000300), some (.ref 0), some (.ref 84), some (.int (nI (7 * k)))] [] h := by
  refine kl_aload_n C (pc := 1598) (kx_dd d_La_39 0 rfl) rfl rfl ?_
  refine kl_aload_n C (pc := 1599) (kx_dd d_La_39 1 rfl) rfl rfl ?_
  refine kl_iload_n C (pc := 1600) (kx_dd d_La_39 2 rfl) rfl rfl ?_
  refine kl_iconst C (pc := 1601) (v := nI 1) (kx_dd d_La_39 3 rfl) (by decide) ?_
  refine kl_iadd C (pc := 1602) (kx_dd d_La_39 4 rfl) ?_
  refine kl_sldn C (pc := 1603) (7 * k + 1) hX hb hbg (by rw [nI_add]) (by omega) (by omega) (kx_dd d_La_39 5 rfl) ?_
  refine kl_invV C (pc := 1604) (a := 0) (ci := 12) (as := [.int (xs (7 * k + 1))]) (kx_dd d_La_39 6 rfl) ⟨lk_La_173, wi_Tc_tests, we_Tc_tests⟩ w_Tc_tests hG.k0 rfl rfl rfl rfl (Nat.le_of_ble_eq_true rfl) (st_tests hk hG (xs (7 * k + 1))) (by decide) ⟨by omega, by omega⟩ (fun v h1 hq => ?_)
  obtain ⟨y, rfl, k84, hM⟩ := hq
  refine kl_aload_n C (pc := 1607) (kx_dd d_La_39 7 rfl) rfl rfl ?_
  refine kl_aload_n C (pc := 1608) (kx_dd d_La_39 8 rfl) rfl rfl ?_
  refine kl_iload_n C (pc := 1609) (kx_dd d_La_39 9 rfl) rfl rfl ?_
  refine kl_iconst C (pc := 1610) (v := nI 1) (kx_dd d_La_39 10 rfl) (by decide) ?_
  refine kl_iadd C (pc := 1611) (kx_dd d_La_39 11 rfl) ?_
  refine kl_sldn C (pc := 1612) (7 * k + 1) hX hb hbg (by rw [nI_add]) (by omega) (by omega) (kx_dd d_La_39 12 rfl) ?_
  refine kl_invV C (pc := 1613) (a := 84) (ci := 14) (as := [.int (xs (7 * k + 1))]) (st := [.int y]) (kx_dd d_La_39 13 rfl) ⟨lk_La_176, wi_Mo_tests, we_Mo_tests⟩ w_Mo_tests k84 rfl rfl rfl rfl (Nat.le_of_ble_eq_true rfl) hM (by decide) ⟨by omega, by omega⟩ (fun v2 h2 hq2 => ?_)
  obtain ⟨rfl, hG2⟩ := hq2
  refine kl_icmp_eq C (pc := 1616) (tgt := 1785) (kx_dd d_La_39 14 rfl) (by decide) (fun _ => ?_) (fun z => absurd rfl z)
  exact kl_widen (by omega) (by omega) (kont h2 hG2)
theorem la_test {p : Program} {l : Launch} {e : Env} {s : State} {m : MethodId} {args : Array Value} {below : List Frame} {meth : Method} {c : Code} {g : kx_G} {Q : State → Prop} {b L : Nat} {xs : Nat → Int32} (C : kx_Cx g m_La_law p s m args meth c) (hX : va_X b L xs s g.2.2.2.2) (hb : b < g.2.2.1) (hbg : kx_ad g 1000300 = b) (hL : L ≤ 3584) {k : Nat} {h : kx_Mem} (hk : k < 512) (hq7 : 7 * k + 7 ≤ L) (hG : Glob k h) (kont : ∀ h2, Glob (k + 1) h2 → kl_X p l e s m args below meth c g Q (200 + 3 * (k + 1)) (40000 + 511 * (k + 1)) 1785 [some (.ref 1000300), some (.ref 0), some (.ref 84), some (.int (nI (7 * k)))] [] h2) : kl_X p l e s m args below meth c g Q (200 + 3 * k) (40000 + 511 * k) 1621 [some (.ref 1000300), some (.ref 0), some (.ref 84), some (.int (nI (7 * k)))] [] h := by
  refine kl_aload_n C (pc := 1621) (kx_dd d_La_40 0 rfl) rfl rfl ?_
  refine kl_aload_n C (pc := 1622) (kx_dd d_La_40 1 rfl) rfl rfl ?_
  refine kl_iload_n C (pc := 1623) (kx_dd d_La_40 2 rfl) rfl rfl ?_
  refine kl_iconst C (pc := 1624) (v := nI 1) (kx_dd d_La_40 3 rfl) (by decide) ?_
  refine kl_iadd C (pc := 1625) (kx_dd d_La_40 4 rfl) ?_
  refine kl_sldn C (pc := 1626) (7 * k + 1) hX hb hbg (by rw [nI_add]) (by omega) (by omega) (kx_dd d_La_40 5 rfl) ?_
  refine kl_invV C (pc := 1627) (a := 0) (ci := 12) (as := [.int (xs (7 * k + 1))]) (kx_dd d_La_40 6 rfl) ⟨lk_La_177, wi_Tc_test, we_Tc_test⟩ w_Tc_test hG.k0 rfl rfl rfl rfl (Nat.le_of_ble_eq_true rfl) (st_test hk hG (xs (7 * k + 1))) (by decide) ⟨by omega, by omega⟩ (fun v h1 hq => ?_)
  obtain ⟨y, rfl, k84, hM⟩ := hq
  refine kl_aload_n C (pc := 1630) (kx_dd d_La_40 7 rfl) rfl rfl ?_
  refine kl_aload_n C (pc := 1631) (kx_dd d_La_40 8 rfl) rfl rfl ?_
  refine kl_iload_n C (pc := 1632) (kx_dd d_La_40 9 rfl) rfl rfl ?_
  refine kl_iconst C (pc := 1633) (v := nI 1) (kx_dd d_La_40 10 rfl) (by decide) ?_
  refine kl_iadd C (pc := 1634) (kx_dd d_La_40 11 rfl) ?_
  refine kl_sldn C (pc := 1635) (7 * k + 1) hX hb hbg (by rw [nI_add]) (by omega) (by omega) (kx_dd d_La_40 12 rfl) ?_
  refine kl_invV C (pc := 1636) (a := 84) (ci := 14) (as := [.int (xs (7 * k + 1))]) (st := [.int y]) (kx_dd d_La_40 13 rfl) ⟨lk_La_180, wi_Mo_test, we_Mo_test⟩ w_Mo_test k84 rfl rfl rfl rfl (Nat.le_of_ble_eq_true rfl) hM (by decide) ⟨by omega, by omega⟩ (fun v2 h2 hq2 => ?_)
  obtain ⟨rfl, hG2⟩ := hq2
  refine kl_icmp_eq C (pc := 1639) (tgt := 1785) (kx_dd d_La_40 14 rfl) (by decide) (fun _ => ?_) (fun z => absurd rfl z)
  exact kl_widen (by omega) (by omega) (kont h2 hG2)
theorem la_spread {p : Program} {l : Launch} {e : Env} {s : State} {m : MethodId} {args : Array Value} {below : List Frame} {meth : Method} {c : Code} {g : kx_G} {Q : State → Prop} {b L : Nat} {xs : Nat → Int32} (C : kx_Cx g m_La_law p s m args meth c) (hX : va_X b L xs s g.2.2.2.2) (hb : b < g.2.2.1) (hbg : kx_ad g 1000300 = b) (hL : L ≤ 3584) {k : Nat} {h : kx_Mem} (hk : k < 512) (hq7 : 7 * k + 7 ≤ L) (hG : Glob k h) (kont : ∀ h2, Glob (k + 1) h2 → kl_X p l e s m args below meth c g Q (200 + 3 * (k + 1)) (40000 + 511 * (k + 1)) 1785 [some (.ref 1000300), some (.ref 0), some (.ref 84), some (.int (nI (7 * k)))] [] h2) : kl_X p l e s m args below meth c g Q (200 + 3 * k) (40000 + 511 * k) 1644 [some (.ref 1000300), some (.ref 0), some (.ref 84), some (.int (nI (7 * k)))] [] h := by
  refine kl_aload_n C (pc := 1644) (kx_dd d_La_41 0 rfl) rfl rfl ?_
  refine kl_aload_n C (pc := 1645) (kx_dd d_La_41 1 rfl) rfl rfl ?_
  refine kl_iload_n C (pc := 1646) (kx_dd d_La_41 2 rfl) rfl rfl ?_
  refine kl_iconst C (pc := 1647) (v := nI 1) (kx_dd d_La_41 3 rfl) (by decide) ?_
  refine kl_iadd C (pc := 1648) (kx_dd d_La_41 4 rfl) ?_
  refine kl_sldn C (pc := 1649) (7 * k + 1) hX hb hbg (by rw [nI_add]) (by omega) (by omega) (kx_dd d_La_41 5 rfl) ?_
  refine kl_invV C (pc := 1650) (a := 0) (ci := 12) (as := [.int (xs (7 * k + 1))]) (kx_dd d_La_41 6 rfl) ⟨lk_La_181, wi_Tc_spread, we_Tc_spread⟩ w_Tc_spread hG.k0 rfl rfl rfl rfl (Nat.le_of_ble_eq_true rfl) (st_spread hk hG (xs (7 * k + 1))) (by decide) ⟨by omega, by omega⟩ (fun v h1 hq => ?_)
  obtain ⟨y, rfl, k84, hM⟩ := hq
  refine kl_aload_n C (pc := 1653) (kx_dd d_La_41 7 rfl) rfl rfl ?_
  refine kl_aload_n C (pc := 1654) (kx_dd d_La_41 8 rfl) rfl rfl ?_
  refine kl_iload_n C (pc := 1655) (kx_dd d_La_41 9 rfl) rfl rfl ?_
  refine kl_iconst C (pc := 1656) (v := nI 1) (kx_dd d_La_41 10 rfl) (by decide) ?_
  refine kl_iadd C (pc := 1657) (kx_dd d_La_41 11 rfl) ?_
  refine kl_sldn C (pc := 1658) (7 * k + 1) hX hb hbg (by rw [nI_add]) (by omega) (by omega) (kx_dd d_La_41 12 rfl) ?_
  refine kl_invV C (pc := 1659) (a := 84) (ci := 14) (as := [.int (xs (7 * k + 1))]) (st := [.int y]) (kx_dd d_La_41 13 rfl) ⟨lk_La_184, wi_Mo_spread, we_Mo_spread⟩ w_Mo_spread k84 rfl rfl rfl rfl (Nat.le_of_ble_eq_true rfl) hM (by decide) ⟨by omega, by omega⟩ (fun v2 h2 hq2 => ?_)
  obtain ⟨rfl, hG2⟩ := hq2
  refine kl_icmp_eq C (pc := 1662) (tgt := 1785) (kx_dd d_La_41 14 rfl) (by decide) (fun _ => ?_) (fun z => absurd rfl z)
  exact kl_widen (by omega) (by omega) (kont h2 hG2)
theorem la_again {p : Program} {l : Launch} {e : Env} {s : State} {m : MethodId} {args : Array Value} {below : List Frame} {meth : Method} {c : Code} {g : kx_G} {Q : State → Prop} {b L : Nat} {xs : Nat → Int32} (C : kx_Cx g m_La_law p s m args meth c) (hX : va_X b L xs s g.2.2.2.2) (hb : b < g.2.2.1) (hbg : kx_ad g 1000300 = b) (hL : L ≤ 3584) {k : Nat} {h : kx_Mem} (hk : k < 512) (hq7 : 7 * k + 7 ≤ L) (hG : Glob k h) (kont : ∀ h2, Glob (k + 1) h2 → kl_X p l e s m args below meth c g Q (200 + 3 * (k + 1)) (40000 + 511 * (k + 1)) 1785 [some (.ref 1000300), some (.ref 0), some (.ref 84), some (.int (nI (7 * k)))] [] h2) : kl_X p l e s m args below meth c g Q (200 + 3 * k) (40000 + 511 * k) 1667 [some (.ref 1000300), some (.ref 0), some (.ref 84), some (.int (nI (7 * k)))] [] h := by
  refine kl_aload_n C (pc := 1667) (kx_dd d_La_42 0 rfl) rfl rfl ?_
  refine kl_aload_n C (pc := 1668) (kx_dd d_La_42 1 rfl) rfl rfl ?_
  refine kl_iload_n C (pc := 1669) (kx_dd d_La_42 2 rfl) rfl rfl ?_
  refine kl_iconst C (pc := 1670) (v := nI 1) (kx_dd d_La_42 3 rfl) (by decide) ?_
  refine kl_iadd C (pc := 1671) (kx_dd d_La_42 4 rfl) ?_
  refine kl_sldn C (pc := 1672) (7 * k + 1) hX hb hbg (by rw [nI_add]) (by omega) (by omega) (kx_dd d_La_42 5 rfl) ?_
  refine kl_invV C (pc := 1673) (a := 0) (ci := 12) (as := [.int (xs (7 * k + 1))]) (kx_dd d_La_42 6 rfl) ⟨lk_La_185, wi_Tc_again, we_Tc_again⟩ w_Tc_again hG.k0 rfl rfl rfl rfl (Nat.le_of_ble_eq_true rfl) (st_again hk hG (xs (7 * k + 1))) (by decide) ⟨by omega, by omega⟩ (fun v h1 hq => ?_)
  obtain ⟨y, rfl, k84, hM⟩ := hq
  refine kl_aload_n C (pc := 1676) (kx_dd d_La_42 7 rfl) rfl rfl ?_
  refine kl_aload_n C (pc := 1677) (kx_dd d_La_42 8 rfl) rfl rfl ?_
  refine kl_iload_n C (pc := 1678) (kx_dd d_La_42 9 rfl) rfl rfl ?_
  refine kl_iconst C (pc := 1679) (v := nI 1) (kx_dd d_La_42 10 rfl) (by decide) ?_
  refine kl_iadd C (pc := 1680) (kx_dd d_La_42 11 rfl) ?_
  refine kl_sldn C (pc := 1681) (7 * k + 1) hX hb hbg (by rw [nI_add]) (by omega) (by omega) (kx_dd d_La_42 12 rfl) ?_
  refine kl_invV C (pc := 1682) (a := 84) (ci := 14) (as := [.int (xs (7 * k + 1))]) (st := [.int y]) (kx_dd d_La_42 13 rfl) ⟨lk_La_188, wi_Mo_again, we_Mo_again⟩ w_Mo_again k84 rfl rfl rfl rfl (Nat.le_of_ble_eq_true rfl) hM (by decide) ⟨by omega, by omega⟩ (fun v2 h2 hq2 => ?_)
  obtain ⟨rfl, hG2⟩ := hq2
  refine kl_icmp_eq C (pc := 1685) (tgt := 1785) (kx_dd d_La_42 14 rfl) (by decide) (fun _ => ?_) (fun z => absurd rfl z)
  exact kl_widen (by omega) (by omega) (kont h2 hG2)
theorem la_fund {p : Program} {l : Launch} {e : Env} {s : State} {m : MethodId} {args : Array Value} {below : List Frame} {meth : Method} {c : Code} {g : kx_G} {Q : State → Prop} {b L : Nat} {xs : Nat → Int32} (C : kx_Cx g m_La_law p s m args meth c) (hX : va_X b L xs s g.2.2.2.2) (hb : b < g.2.2.1) (hbg : kx_ad g 1000300 = b) (hL : L ≤ 3584) {k : Nat} {h : kx_Mem} (hk : k < 512) (hq7 : 7 * k + 7 ≤ L) (hG : Glob k h) (kont : ∀ h2, Glob (k + 1) h2 → kl_X p l e s m args below meth c g Q (200 + 3 * (k + 1)) (40000 + 511 * (k + 1)) 1785 [some (.ref 1000300), some (.ref 0), some (.ref 84), some (.int (nI (7 * k)))] [] h2) : kl_X p l e s m args below meth c g Q (200 + 3 * k) (40000 + 511 * k) 1690 [some (.ref 1000300), some (.ref 0), some (.ref 84), some (.int (nI (7 * k)))] [] h := by
  refine kl_aload_n C (pc := 1690) (kx_dd d_La_43 0 rfl) rfl rfl ?_
  refine kl_aload_n C (pc := 1691) (kx_dd d_La_43 1 rfl) rfl rfl ?_
  refine kl_iload_n C (pc := 1692) (kx_dd d_La_43 2 rfl) rfl rfl ?_
  refine kl_iconst C (pc := 1693) (v := nI 1) (kx_dd d_La_43 3 rfl) (by decide) ?_
  refine kl_iadd C (pc := 1694) (kx_dd d_La_43 4 rfl) ?_
  refine kl_sldn C (pc := 1695) (7 * k + 1) hX hb hbg (by rw [nI_add]) (by omega) (by omega) (kx_dd d_La_43 5 rfl) ?_
  refine kl_invV C (pc := 1696) (a := 0) (ci := 12) (as := [.int (xs (7 * k + 1))]) (kx_dd d_La_43 6 rfl) ⟨lk_La_189, wi_Tc_fund, we_Tc_fund⟩ w_Tc_fund hG.k0 rfl rfl rfl rfl (Nat.le_of_ble_eq_true rfl) (st_fund hk hG (xs (7 * k + 1))) (by decide) ⟨by omega, by omega⟩ (fun v h1 hq => ?_)
  obtain ⟨y, rfl, k84, hM⟩ := hq
  refine kl_aload_n C (pc := 1699) (kx_dd d_La_43 7 rfl) rfl rfl ?_
  refine kl_aload_n C (pc := 1700) (kx_dd d_La_43 8 rfl) rfl rfl ?_
  refine kl_iload_n C (pc := 1701) (kx_dd d_La_43 9 rfl) rfl rfl ?_
  refine kl_iconst C (pc := 1702) (v := nI 1) (kx_dd d_La_43 10 rfl) (by decide) ?_
  refine kl_iadd C (pc := 1703) (kx_dd d_La_43 11 rfl) ?_
  refine kl_sldn C (pc := 1704) (7 * k + 1) hX hb hbg (by rw [nI_add]) (by omega) (by omega) (kx_dd d_La_43 12 rfl) ?_
  refine kl_invV C (pc := 1705) (a := 84) (ci := 14) (as := [.int (xs (7 * k + 1))]) (st := [.int y]) (kx_dd d_La_43 13 rfl) ⟨lk_La_192, wi_Mo_fund, we_Mo_fund⟩ w_Mo_fund k84 rfl rfl rfl rfl (Nat.le_of_ble_eq_true rfl) hM (by decide) ⟨by omega, by omega⟩ (fun v2 h2 hq2 => ?_)
  obtain ⟨rfl, hG2⟩ := hq2
  refine kl_icmp_eq C (pc := 1708) (tgt := 1785) (kx_dd d_La_43 14 rfl) (by decide) (fun _ => ?_) (fun z => absurd rfl z)
  exact kl_widen (by omega) (by omega) (kont h2 hG2)
theorem la_wave {p : Program} {l : Launch} {e : Env} {s : State} {m : MethodId} {args : Array Value} {below : List Frame} {meth : Method} {c : Code} {g : kx_G} {Q : State → Prop} {b L : Nat} {xs : Nat → Int32} (C : kx_Cx g m_La_law p s m args meth c) (hX : va_X b L xs s g.2.2.2.2) (hb : b < g.2.2.1) (hbg : kx_ad g 1000300 = b) (hL : L ≤ 3584) {k : Nat} {h : kx_Mem} (hk : k < 512) (hq7 : 7 * k + 7 ≤ L) (hG : Glob k h) (kont : ∀ h2, Glob (k + 1) h2 → kl_X p l e s m args below meth c g Q (200 + 3 * (k + 1)) (40000 + 511 * (k + 1)) 1785 [some (.ref 1000300), some (.ref 0), some (.ref 84), some (.int (nI (7 * k)))] [] h2) : kl_X p l e s m args below meth c g Q (200 + 3 * k) (40000 + 511 * k) 1713 [some (.ref 1000300), some (.ref 0), some (.ref 84), some (.int (nI (7 * k)))] [] h := by
  refine kl_aload_n C (pc := 1713) (kx_dd d_La_44 0 rfl) rfl rfl ?_
  refine kl_invV C (pc := 1714) (a := 0) (ci := 12) (as := []) (kx_dd d_La_44 1 rfl) ⟨lk_La_193, wi_Tc_wave, we_Tc_wave⟩ w_Tc_wave hG.k0 rfl rfl rfl rfl (Nat.le_of_ble_eq_true rfl) (st_wave hk hG) (by decide) ⟨by omega, by omega⟩ (fun v h1 hq => ?_)
  obtain ⟨y, rfl, k84, hM⟩ := hq
  refine kl_aload_n C (pc := 1717) (kx_dd d_La_44 2 rfl) rfl rfl ?_
  refine kl_invV C (pc := 1718) (a := 84) (ci := 14) (as := []) (st := [.int y]) (kx_dd d_La_44 3 rfl) ⟨lk_La_196, wi_Mo_wave, we_Mo_wave⟩ w_Mo_wave k84 rfl rfl rfl rfl (Nat.le_of_ble_eq_true rfl) hM (by decide) ⟨by omega, by omega⟩ (fun v2 h2 hq2 => ?_)
  obtain ⟨rfl, hG2⟩ := hq2
  refine kl_icmp_eq C (pc := 1721) (tgt := 1785) (kx_dd d_La_44 4 rfl) (by decide) (fun _ => ?_) (fun z => absurd rfl z)
  exact kl_widen (by omega) (by omega) (kont h2 hG2)
theorem la_last {p : Program} {l : Launch} {e : Env} {s : State} {m : MethodId} {args : Array Value} {below : List Frame} {meth : Method} {c : Code} {g : kx_G} {Q : State → Prop} {b L : Nat} {xs : Nat → Int32} (C : kx_Cx g m_La_law p s m args meth c) (hX : va_X b L xs s g.2.2.2.2) (hb : b < g.2.2.1) (hbg : kx_ad g 1000300 = b) (hL : L ≤ 3584) {k : Nat} {h : kx_Mem} (hk : k < 512) (hq7 : 7 * k + 7 ≤ L) (hG : Glob k h) (kont : ∀ h2, Glob (k + 1) h2 → kl_X p l e s m args below meth c g Q (200 + 3 * (k + 1)) (40000 + 511 * (k + 1)) 1785 [some (.ref 1000300), some (.ref 0), some (.ref 84), some (.int (nI (7 * k)))] [] h2) : kl_X p l e s m args below meth c g Q (200 + 3 * k) (40000 + 511 * k) 1726 [some (.ref 1000300), some (.ref 0), some (.ref 84), some (.int (nI (7 * k)))] [] h := by
  refine kl_aload_n C (pc := 1726) (kx_dd d_La_45 0 rfl) rfl rfl ?_
  refine kl_invV C (pc := 1727) (a := 0) (ci := 12) (as := []) (kx_dd d_La_45 1 rfl) ⟨lk_La_197, wi_Tc_last, we_Tc_last⟩ w_Tc_last hG.k0 rfl rfl rfl rfl (Nat.le_of_ble_eq_true rfl) (st_last hk hG) (by decide) ⟨by omega, by omega⟩ (fun v h1 hq => ?_)
  obtain ⟨y, rfl, k84, hM⟩ := hq
  refine kl_aload_n C (pc := 1730) (kx_dd d_La_45 2 rfl) rfl rfl ?_
  refine kl_invV C (pc := 1731) (a := 84) (ci := 14) (as := []) (st := [.int y]) (kx_dd d_La_45 3 rfl) ⟨lk_La_200, wi_Mo_last, we_Mo_last⟩ w_Mo_last k84 rfl rfl rfl rfl (Nat.le_of_ble_eq_true rfl) hM (by decide) ⟨by omega, by omega⟩ (fun v2 h2 hq2 => ?_)
  obtain ⟨rfl, hG2⟩ := hq2
  refine kl_icmp_eq C (pc := 1734) (tgt := 1785) (kx_dd d_La_45 4 rfl) (by decide) (fun _ => ?_) (fun z => absurd rfl z)
  exact kl_widen (by omega) (by omega) (kont h2 hG2)
theorem la_purse {p : Program} {l : Launch} {e : Env} {s : State} {m : MethodId} {args : Array Value} {below : List Frame} {meth : Method} {c : Code} {g : kx_G} {Q : State → Prop} {b L : Nat} {xs : Nat → Int32} (C : kx_Cx g m_La_law p s m args meth c) (hX : va_X b L xs s g.2.2.2.2) (hb : b < g.2.2.1) (hbg : kx_ad g 1000300 = b) (hL : L ≤ 3584) {k : Nat} {h : kx_Mem} (hk : k < 512) (hq7 : 7 * k + 7 ≤ L) (hG : Glob k h) (kont : ∀ h2, Glob (k + 1) h2 → kl_X p l e s m args below meth c g Q (200 + 3 * (k + 1)) (40000 + 511 * (k + 1)) 1785 [some (.ref 1000300), some (.ref 0), some (.ref 84), some (.int (nI (7 * k)))] [] h2) : kl_X p l e s m args below meth c g Q (200 + 3 * k) (40000 + 511 * k) 1739 [some (.ref 1000300), some (.ref 0), some (.ref 84), some (.int (nI (7 * k)))] [] h := by
  refine kl_aload_n C (pc := 1739) (kx_dd d_La_46 0 rfl) rfl rfl ?_
  refine kl_aload_n C (pc := 1740) (kx_dd d_La_46 1 rfl) rfl rfl ?_
  refine kl_iload_n C (pc := 1741) (kx_dd d_La_46 2 rfl) rfl rfl ?_
  refine kl_iconst C (pc := 1742) (v := nI 1) (kx_dd d_La_46 3 rfl) (by decide) ?_
  refine kl_iadd C (pc := 1743) (kx_dd d_La_46 4 rfl) ?_
  refine kl_sldn C (pc := 1744) (7 * k + 1) hX hb hbg (by rw [nI_add]) (by omega) (by omega) (kx_dd d_La_46 5 rfl) ?_
  refine kl_invV C (pc := 1745) (a := 0) (ci := 12) (as := [.int (xs (7 * k + 1))]) (kx_dd d_La_46 6 rfl) ⟨lk_La_201, wi_Tc_purse, we_Tc_purse⟩ w_Tc_purse hG.k0 rfl rfl rfl rfl (Nat.le_of_ble_eq_true rfl) (st_purse hk hG (xs (7 * k + 1))) (by decide) ⟨by omega, by omega⟩ (fun v h1 hq => ?_)
  obtain ⟨y, rfl, k84, hM⟩ := hq
  refine kl_aload_n C (pc := 1748) (kx_dd d_La_46 7 rfl) rfl rfl ?_
  refine kl_aload_n C (pc := 1749) (kx_dd d_La_46 8 rfl) rfl rfl ?_
  refine kl_iload_n C (pc := 1750) (kx_dd d_La_46 9 rfl) rfl rfl ?_
  refine kl_iconst C (pc := 1751) (v := nI 1) (kx_dd d_La_46 10 rfl) (by decide) ?_
  refine kl_iadd C (pc := 1752) (kx_dd d_La_46 11 rfl) ?_
  refine kl_sldn C (pc := 1753) (7 * k + 1) hX hb hbg (by rw [nI_add]) (by omega) (by omega) (kx_dd d_La_46 12 rfl) ?_
  refine kl_invV C (pc := 1754) (a := 84) (ci := 14) (as := [.int (xs (7 * k + 1))]) (st := [.int y]) (kx_dd d_La_46 13 rfl) ⟨lk_La_204, wi_Mo_purse, we_Mo_purse⟩ w_Mo_purse k84 rfl rfl rfl rfl (Nat.le_of_ble_eq_true rfl) hM (by decide) ⟨by omega, by omega⟩ (fun v2 h2 hq2 => ?_)
  obtain ⟨rfl, hG2⟩ := hq2
  refine kl_icmp_eq C (pc := 1757) (tgt := 1785) (kx_dd d_La_46 14 rfl) (by decide) (fun _ => ?_) (fun z => absurd rfl z)
  exact kl_widen (by omega) (by omega) (kont h2 hG2)
theorem la_count {p : Program} {l : Launch} {e : Env} {s : State} {m : MethodId} {args : Array Value} {below : List Frame} {meth : Method} {c : Code} {g : kx_G} {Q : State → Prop} {b L : Nat} {xs : Nat → Int32} (C : kx_Cx g m_La_law p s m args meth c) (hX : va_X b L xs s g.2.2.2.2) (hb : b < g.2.2.1) (hbg : kx_ad g 1000300 = b) (hL : L ≤ 3584) {k : Nat} {h : kx_Mem} (hk : k < 512) (hq7 : 7 * k + 7 ≤ L) (hG : Glob k h) (kont : ∀ h2, Glob (k + 1) h2 → kl_X p l e s m args below meth c g Q (200 + 3 * (k + 1)) (40000 + 511 * (k + 1)) 1785 [some (.ref 1000300), some (.ref 0), some (.ref 84), some (.int (nI (7 * k)))] [] h2) : kl_X p l e s m args below meth c g Q (200 + 3 * k) (40000 + 511 * k) 1762 [some (.ref 1000300), some (.ref 0), some (.ref 84), some (.int (nI (7 * k)))] [] h := by
  refine kl_aload_n C (pc := 1762) (kx_dd d_La_47 0 rfl) rfl rfl ?_
  refine kl_aload_n C (pc := 1763) (kx_dd d_La_47 1 rfl) rfl rfl ?_
  refine kl_iload_n C (pc := 1764) (kx_dd d_La_47 2 rfl) rfl rfl ?_
  refine kl_iconst C (pc := 1765) (v := nI 1) (kx_dd d_La_47 3 rfl) (by decide) ?_
  refine kl_iadd C (pc := 1766) (kx_dd d_La_47 4 rfl) ?_
  refine kl_sldn C (pc := 1767) (7 * k + 1) hX hb hbg (by rw [nI_add]) (by omega) (by omega) (kx_dd d_La_47 5 rfl) ?_
  refine kl_invV C (pc := 1768) (a := 0) (ci := 12) (as := [.int (xs (7 * k + 1))]) (kx_dd d_La_47 6 rfl) ⟨lk_La_205, wi_Tc_count, we_Tc_count⟩ w_Tc_count hG.k0 rfl rfl rfl rfl (Nat.le_of_ble_eq_true rfl) (st_count hk hG (xs (7 * k + 1))) (by decide) ⟨by omega, by omega⟩ (fun v h1 hq => ?_)
  obtain ⟨y, rfl, k84, hM⟩ := hq
  refine kl_aload_n C (pc := 1771) (kx_dd d_La_47 7 rfl) rfl rfl ?_
  refine kl_aload_n C (pc := 1772) (kx_dd d_La_47 8 rfl) rfl rfl ?_
  refine kl_iload_n C (pc := 1773) (kx_dd d_La_47 9 rfl) rfl rfl ?_
  refine kl_iconst C (pc := 1774) (v := nI 1) (kx_dd d_La_47 10 rfl) (by decide) ?_
  refine kl_iadd C (pc := 1775) (kx_dd d_La_47 11 rfl) ?_
  refine kl_sldn C (pc := 1776) (7 * k + 1) hX hb hbg (by rw [nI_add]) (by omega) (by omega) (kx_dd d_La_47 12 rfl) ?_
  refine kl_invV C (pc := 1777) (a := 84) (ci := 14) (as := [.int (xs (7 * k + 1))]) (st := [.int y]) (kx_dd d_La_47 13 rfl) ⟨lk_La_208, wi_Mo_count, we_Mo_count⟩ w_Mo_count k84 rfl rfl rfl rfl (Nat.le_of_ble_eq_true rfl) hM (by decide) ⟨by omega, by omega⟩ (fun v2 h2 hq2 => ?_)
  obtain ⟨rfl, hG2⟩ := hq2
  refine kl_icmp_eq C (pc := 1780) (tgt := 1785) (kx_dd d_La_47 14 rfl) (by decide) (fun _ => ?_) (fun z => absurd rfl z)
  exact kl_widen (by omega) (by omega) (kont h2 hG2)
