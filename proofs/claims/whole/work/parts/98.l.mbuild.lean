/-! building: the reference -/
/-- the class's references as its constructor leaves them -/
def rC9 : List (Nat × Nat × Nat) := (3, 1, 4) :: (13, 0, 48) :: (13, 1, 57) :: (13, 2, 66) :: (13, 3, 75) :: (40, 1, 1000201) :: (41, 1, 1000201) :: rC
theorem Bd.sub {E : Nat → Nat → Int32 → Prop} {R T R' T' : List (Nat × Nat × Nat)} {L : List Nat} {N : Nat} {h : kx_Mem} (hB : Bd E R T L N h) (hR : ∀ q ∈ R', q ∈ R) (hT : ∀ q ∈ T', q ∈ T) : Bd E R' T' L N h := ⟨hB.1, ⟨fun q hq => hB.2.1.1 q (hR q hq), fun q hq => hB.2.1.2 q (hT q hq)⟩, ⟨fun q hq => hB.2.2.1.1 q (hR q hq), fun q hq => hB.2.2.1.2 q (hT q hq)⟩, hB.2.2.2⟩
theorem RUm.pv {n u v : Nat} {T : Nat → Nat} {h0 h : kx_Mem} (hp : RUm ru0 u n T h0) (hu : u ≠ v) (hf : kx_Fn (FpV v) h0 h) (hN : 154 ≤ h0.2.2.2.2) : RUm ru0 u n T h := by
  obtain ⟨h1, h2, h3, h4, h5, h6, h7, h8, h9, h10⟩ := hp
  have e : ∀ a j, a < 154 → ¬ FpV v a j → h.1 a j = h0.1 a j := fun a j q1 q2 => (hf.2 a (by omega)).1 j q2
  unfold FpV at e
  refine ⟨fun k hk => by rw [e _ _ (by decide) (by omega)]; exact h1 k hk, fun k hk => by rw [e _ _ (by decide) (by omega)]; exact h2 k hk, by rw [e _ _ (by decide) (by omega)]; exact h3, fun k hk => absurd hk (Nat.not_lt_zero k), by rw [e _ _ (by decide) (by omega)]; exact h5, fun k hk => absurd hk (Nat.not_lt_zero k), by rw [e _ _ (by decide) (by omega)]; exact h7, fun k y hy => ?_, by rw [e _ _ (by decide) (by omega)]; exact h9, fun k y hy => ?_⟩
  · exact absurd hy (by simp [ruM, ruD, ru0])
  · exact absurd hy (by simp [ruE, ruD, ru0])
def FpA (a j : Nat) : Prop := FpV 0 a j ∨ FpV 1 a j ∨ FpV 2 a j ∨ FpV 3 a j ∨ FpV 4 a j
/-- ints behind the reference's constructor -/
def EM (E : Nat → Nat → Int32 → Prop) : Nat → Nat → Int32 → Prop := fun x y z => (x = 84 ∧ y = 12 ∧ z = -1) ∨ (x = 84 ∧ y = 38 ∧ z = 1) ∨ (¬ (x = 84 ∧ (y = 12 ∨ y = 38)) ∧ E x y z)
/-- the memory behind both constructors -/
def Born (E : Nat → Nat → Int32 → Prop) (L : List Nat) (h' : kx_Mem) : Prop := ∃ hb, Bd (EM E) (rM ++ rC9) (tM ++ tC) L 154 hb ∧ kx_Fn FpA hb h' ∧ h'.2.2.2.2 = 159 ∧ ∀ u, u < 5 → ∀ n T, RUm ru0 u n T h'
theorem y_Mo_init {l : Launch} {g : kx_G} {d : Nat} {h : kx_Mem} (E : Nat → Nat → Int32 → Prop) (L : List Nat) (hB : Bd E rC9 ((84, 15, 0) :: tC) L 85 h) (hL : ∀ q ∈ L, q + 8 < 84) : kx_Sp l g m_Mo_init [.ref 84] h (d + 4) 74 31412 (fun v h' => v = none ∧ Born E L h') := by
  refine kx_enter_e (lv := [_, _]) (by decide +kernel) (Nat.le_of_ble_eq_true rfl) rfl ?_
  refine kx_aload_n (pc := 0) (kx_dd d_Mo_init 0 rfl) rfl rfl ?_
  refine kx_objInit (pc := 1) oi_Mo oi_2 oi_3 (kx_dd d_Mo_init 1 rfl) (Nat.le_of_ble_eq_true rfl) (Nat.le_of_ble_eq_true rfl) ?_
  refine kx_aload_n (pc := 4) (kx_dd d_Mo_init 2 rfl) rfl rfl ?_
  refine kx_sipush (pc := 5) (v := 24000) (kx_dd d_Mo_init 3 rfl) rfl ?_
  refine kx_fld (pc := 8) (N1 := 86) (kd := 52) (N' := 24000) hB rfl (by decide +kernel) (by decide +kernel) (by decide) ⟨by decide, by decide⟩ rfl wa_52 (by decide) (by decide) (by decide) (Nat.le_of_ble_eq_true rfl) (Nat.le_of_ble_eq_true rfl) (kx_dd d_Mo_init 4 rfl) fl_Mo_17 rfl rfl (kx_dd d_Mo_init 5 rfl) (fun h hB => ?_)
  refine kx_aload_n (pc := 13) (kx_dd d_Mo_init 6 rfl) rfl rfl ?_
  refine kx_sipush (pc := 14) (v := 2000) (kx_dd d_Mo_init 7 rfl) rfl ?_
  refine kx_fld (pc := 17) (N1 := 87) (kd := 50) (N' := 2000) hB rfl (by decide +kernel) (by decide +kernel) (by decide) ⟨by decide, by decide⟩ rfl wa_50 (by decide) (by decide) (by decide) (Nat.le_of_ble_eq_true rfl) (Nat.le_of_ble_eq_true rfl) (kx_dd d_Mo_init 8 rfl) fl_Mo_13 rfl rfl (kx_dd d_Mo_init 9 rfl) (fun h hB => ?_)
  refine kx_aload_n (pc := 22) (kx_dd d_Mo_init 10 rfl) rfl rfl ?_
  have hez := hB.2.2.2.1.2
  refine kx_newB (pc := 23) (N1 := 88) (ci := 13) (r := (kx_C13, kx_T13, 6)) hB rfl rfl cl_Mo_245 (kx_in 1525 (by decide +kernel) rfl) (kx_in 17 (by decide +kernel) rfl) (by decide) (Nat.le_of_ble_eq_true rfl) (Nat.le_of_ble_eq_true rfl) (kx_dd d_Mo_init 11 rfl) (fun h hB => ?_)
  refine kx_dup (pc := 26) (kx_dd d_Mo_init 12 rfl) rfl ?_
  refine kx_invI (pc := 27) (a := 87) (as := []) rfl (kx_dd d_Mo_init 13 rfl) ⟨lk_Mo_275, rfl, wi_St_init⟩ w_St_init rfl rfl (Nat.le_of_ble_eq_true rfl) (x_St_init (d := d) _ _ _ _ _ _ hB (by decide +kernel) (by decide +kernel) (by decide)) (Nat.le_refl _) ⟨Nat.le_of_ble_eq_true rfl, Nat.le_of_ble_eq_true rfl⟩ (fun v h' hq => ?_)
  obtain ⟨rfl, hB⟩ := hq
  refine kx_putB (pc := 30) (v := 87) hB (by decide +kernel) (by decide +kernel) (by decide) fl_Mo_33 rfl rfl (kx_dd d_Mo_init 14 rfl) (fun h hB => ?_)
  refine kx_aload_n (pc := 33) (kx_dd d_Mo_init 15 rfl) rfl rfl ?_
  refine kx_sipush (pc := 34) (v := 600) (kx_dd d_Mo_init 16 rfl) rfl ?_
  refine kx_fld (pc := 37) (N1 := 89) (kd := 52) (N' := 600) hB rfl (by decide +kernel) (by decide +kernel) (by decide) ⟨by decide, by decide⟩ rfl wa_52 (by decide) (by decide) (by decide) (Nat.le_of_ble_eq_true rfl) (Nat.le_of_ble_eq_true rfl) (kx_dd d_Mo_init 17 rfl) fl_Mo_21 rfl rfl (kx_dd d_Mo_init 18 rfl) (fun h hB => ?_)
  refine kx_aload_n (pc := 42) (kx_dd d_Mo_init 19 rfl) rfl rfl ?_
  refine kx_iconst (pc := 43) (v := -1) (kx_dd d_Mo_init 20 rfl) rfl ?_
  refine kx_putI (pc := 44) fl_Mo_30 (congrArg Prod.fst (hB.2.2.1.2 (84, 15, 0) (by decide +kernel))) (by decide) rfl rfl (kx_dd d_Mo_init 21 rfl) ?_
  have hB := hB.setI (a := 84) (j := 12) (v := -1) (by decide) (fun q hq => Or.inr (hL q hq))
  refine kx_aload_n (pc := 47) (kx_dd d_Mo_init 22 rfl) rfl rfl ?_
  refine kx_bipush (pc := 48) (v := 55) (kx_dd d_Mo_init 23 rfl) rfl ?_
  refine kx_fld (pc := 50) (N1 := 90) (kd := 50) (N' := 55) hB rfl (by decide +kernel) (by decide +kernel) (by decide) ⟨by decide, by decide⟩ rfl wa_50 (by decide) (by decide) (by decide) (Nat.le_of_ble_eq_true rfl) (Nat.le_of_ble_eq_true rfl) (kx_dd d_Mo_init 24 rfl) fl_Mo_85 rfl rfl (kx_dd d_Mo_init 25 rfl) (fun h hB => ?_)
  refine kx_aload_n (pc := 55) (kx_dd d_Mo_init 26 rfl) rfl rfl ?_
  refine kx_bipush (pc := 56) (v := 20) (kx_dd d_Mo_init 27 rfl) rfl ?_
  refine kx_fld (pc := 58) (N1 := 91) (kd := 50) (N' := 20) hB rfl (by decide +kernel) (by decide +kernel) (by decide) ⟨by decide, by decide⟩ rfl wa_50 (by decide) (by decide) (by decide) (Nat.le_of_ble_eq_true rfl) (Nat.le_of_ble_eq_true rfl) (kx_dd d_Mo_init 28 rfl) fl_Mo_88 rfl rfl (kx_dd d_Mo_init 29 rfl) (fun h hB => ?_)
  refine kx_aload_n (pc := 63) (kx_dd d_Mo_init 30 rfl) rfl rfl ?_
  refine kx_iconst (pc := 64) (v := 5) (kx_dd d_Mo_init 31 rfl) rfl ?_
  refine kx_fld (pc := 65) (N1 := 92) (kd := 50) (N' := 5) hB rfl (by decide +kernel) (by decide +kernel) (by decide) ⟨by decide, by decide⟩ rfl wa_50 (by decide) (by decide) (by decide) (Nat.le_of_ble_eq_true rfl) (Nat.le_of_ble_eq_true rfl) (kx_dd d_Mo_init 32 rfl) fl_Mo_91 rfl rfl (kx_dd d_Mo_init 33 rfl) (fun h hB => ?_)
  refine kx_aload_n (pc := 70) (kx_dd d_Mo_init 34 rfl) rfl rfl ?_
  refine kx_bipush (pc := 71) (v := 80) (kx_dd d_Mo_init 35 rfl) rfl ?_
  refine kx_fld (pc := 73) (N1 := 93) (kd := 50) (N' := 80) hB rfl (by decide +kernel) (by decide +kernel) (by decide) ⟨by decide, by decide⟩ rfl wa_50 (by decide) (by decide) (by decide) (Nat.le_of_ble_eq_true rfl) (Nat.le_of_ble_eq_true rfl) (kx_dd d_Mo_init 36 rfl) fl_Mo_103 rfl rfl (kx_dd d_Mo_init 37 rfl) (fun h hB => ?_)
  refine kx_aload_n (pc := 78) (kx_dd d_Mo_init 38 rfl) rfl rfl ?_
  refine kx_bipush (pc := 79) (v := 80) (kx_dd d_Mo_init 39 rfl) rfl ?_
  refine kx_fld (pc := 81) (N1 := 94) (kd := 50) (N' := 80) hB rfl (by decide +kernel) (by decide +kernel) (by decide) ⟨by decide, by decide⟩ rfl wa_50 (by decide) (by decide) (by decide) (Nat.le_of_ble_eq_true rfl) (Nat.le_of_ble_eq_true rfl) (kx_dd d_Mo_init 40 rfl) fl_Mo_109 rfl rfl (kx_dd d_Mo_init 41 rfl) (fun h hB => ?_)
  refine kx_aload_n (pc := 86) (kx_dd d_Mo_init 42 rfl) rfl rfl ?_
  refine kx_iconst (pc := 87) (v := 5) (kx_dd d_Mo_init 43 rfl) rfl ?_
  refine kx_fld (pc := 88) (N1 := 95) (kd := 50) (N' := 5) hB rfl (by decide +kernel) (by decide +kernel) (by decide) ⟨by decide, by decide⟩ rfl wa_50 (by decide) (by decide) (by decide) (Nat.le_of_ble_eq_true rfl) (Nat.le_of_ble_eq_true rfl) (kx_dd d_Mo_init 44 rfl) fl_Mo_94 rfl rfl (kx_dd d_Mo_init 45 rfl) (fun h hB => ?_)
  refine kx_aload_n (pc := 93) (kx_dd d_Mo_init 46 rfl) rfl rfl ?_
  refine kx_bipush (pc := 94) (v := 50) (kx_dd d_Mo_init 47 rfl) rfl ?_
  refine kx_fld (pc := 96) (N1 := 96) (kd := 50) (N' := 50) hB rfl (by decide +kernel) (by decide +kernel) (by decide) ⟨by decide, by decide⟩ rfl wa_50 (by decide) (by decide) (by decide) (Nat.le_of_ble_eq_true rfl) (Nat.le_of_ble_eq_true rfl) (kx_dd d_Mo_init 48 rfl) fl_Mo_206 rfl rfl (kx_dd d_Mo_init 49 rfl) (fun h hB => ?_)
  refine kx_aload_n (pc := 101) (kx_dd d_Mo_init 50 rfl) rfl rfl ?_
  refine kx_bipush (pc := 102) (v := 50) (kx_dd d_Mo_init 51 rfl) rfl ?_
  refine kx_fld (pc := 104) (N1 := 97) (kd := 50) (N' := 50) hB rfl (by decide +kernel) (by decide +kernel) (by decide) ⟨by decide, by decide⟩ rfl wa_50 (by decide) (by decide) (by decide) (Nat.le_of_ble_eq_true rfl) (Nat.le_of_ble_eq_true rfl) (kx_dd d_Mo_init 52 rfl) fl_Mo_209 rfl rfl (kx_dd d_Mo_init 53 rfl) (fun h hB => ?_)
  refine kx_aload_n (pc := 109) (kx_dd d_Mo_init 54 rfl) rfl rfl ?_
  refine kx_iconst (pc := 110) (v := 5) (kx_dd d_Mo_init 55 rfl) rfl ?_
  refine kx_fld (pc := 111) (N1 := 98) (kd := 50) (N' := 5) hB rfl (by decide +kernel) (by decide +kernel) (by decide) ⟨by decide, by decide⟩ rfl wa_50 (by decide) (by decide) (by decide) (Nat.le_of_ble_eq_true rfl) (Nat.le_of_ble_eq_true rfl) (kx_dd d_Mo_init 56 rfl) fl_Mo_97 rfl rfl (kx_dd d_Mo_init 57 rfl) (fun h hB => ?_)
  refine kx_aload_n (pc := 116) (kx_dd d_Mo_init 58 rfl) rfl rfl ?_
  refine kx_bipush (pc := 117) (v := 50) (kx_dd d_Mo_init 59 rfl) rfl ?_
  refine kx_fld (pc := 119) (N1 := 99) (kd := 50) (N' := 50) hB rfl (by decide +kernel) (by decide +kernel) (by decide) ⟨by decide, by decide⟩ rfl wa_50 (by decide) (by decide) (by decide) (Nat.le_of_ble_eq_true rfl) (Nat.le_of_ble_eq_true rfl) (kx_dd d_Mo_init 60 rfl) fl_Mo_214 rfl rfl (kx_dd d_Mo_init 61 rfl) (fun h hB => ?_)
  refine kx_aload_n (pc := 124) (kx_dd d_Mo_init 62 rfl) rfl rfl ?_
  refine kx_bipush (pc := 125) (v := 50) (kx_dd d_Mo_init 63 rfl) rfl ?_
  refine kx_fld (pc := 127) (N1 := 100) (kd := 50) (N' := 50) hB rfl (by decide +kernel) (by decide +kernel) (by decide) ⟨by decide, by decide⟩ rfl wa_50 (by decide) (by decide) (by decide) (Nat.le_of_ble_eq_true rfl) (Nat.le_of_ble_eq_true rfl) (kx_dd d_Mo_init 64 rfl) fl_Mo_220 rfl rfl (kx_dd d_Mo_init 65 rfl) (fun h hB => ?_)
  refine kx_aload_n (pc := 132) (kx_dd d_Mo_init 66 rfl) rfl rfl ?_
  refine kx_iconst (pc := 133) (v := 5) (kx_dd d_Mo_init 67 rfl) rfl ?_
  refine kx_fld (pc := 134) (N1 := 101) (kd := 50) (N' := 5) hB rfl (by decide +kernel) (by decide +kernel) (by decide) ⟨by decide, by decide⟩ rfl wa_50 (by decide) (by decide) (by decide) (Nat.le_of_ble_eq_true rfl) (Nat.le_of_ble_eq_true rfl) (kx_dd d_Mo_init 68 rfl) fl_Mo_100 rfl rfl (kx_dd d_Mo_init 69 rfl) (fun h hB => ?_)
  refine kx_aload_n (pc := 139) (kx_dd d_Mo_init 70 rfl) rfl rfl ?_
  refine kx_bipush (pc := 140) (v := 50) (kx_dd d_Mo_init 71 rfl) rfl ?_
  refine kx_fld (pc := 142) (N1 := 102) (kd := 50) (N' := 50) hB rfl (by decide +kernel) (by decide +kernel) (by decide) ⟨by decide, by decide⟩ rfl wa_50 (by decide) (by decide) (by decide) (Nat.le_of_ble_eq_true rfl) (Nat.le_of_ble_eq_true rfl) (kx_dd d_Mo_init 72 rfl) fl_Mo_225 rfl rfl (kx_dd d_Mo_init 73 rfl) (fun h hB => ?_)
  refine kx_aload_n (pc := 147) (kx_dd d_Mo_init 74 rfl) rfl rfl ?_
  refine kx_bipush (pc := 148) (v := 50) (kx_dd d_Mo_init 75 rfl) rfl ?_
  refine kx_fld (pc := 150) (N1 := 103) (kd := 50) (N' := 50) hB rfl (by decide +kernel) (by decide +kernel) (by decide) ⟨by decide, by decide⟩ rfl wa_50 (by decide) (by decide) (by decide) (Nat.le_of_ble_eq_true rfl) (Nat.le_of_ble_eq_true rfl) (kx_dd d_Mo_init 76 rfl) fl_Mo_228 rfl rfl (kx_dd d_Mo_init 77 rfl) (fun h hB => ?_)
  refine kx_aload_n (pc := 155) (kx_dd d_Mo_init 78 rfl) rfl rfl ?_
  refine kx_bipush (pc := 156) (v := 50) (kx_dd d_Mo_init 79 rfl) rfl ?_
  refine kx_fld (pc := 158) (N1 := 104) (kd := 50) (N' := 50) hB rfl (by decide +kernel) (by decide +kernel) (by decide) ⟨by decide, by decide⟩ rfl wa_50 (by decide) (by decide) (by decide) (Nat.le_of_ble_eq_true rfl) (Nat.le_of_ble_eq_true rfl) (kx_dd d_Mo_init 80 rfl) fl_Mo_231 rfl rfl (kx_dd d_Mo_init 81 rfl) (fun h hB => ?_)
  refine kx_aload_n (pc := 163) (kx_dd d_Mo_init 82 rfl) rfl rfl ?_
  refine kx_bipush (pc := 164) (v := 10) (kx_dd d_Mo_init 83 rfl) rfl ?_
  refine kx_fld (pc := 166) (N1 := 105) (kd := 53) (N' := 10) hB rfl (by decide +kernel) (by decide +kernel) (by decide) ⟨by decide, by decide⟩ rfl wa_53 (by decide) (by decide) (by decide) (Nat.le_of_ble_eq_true rfl) (Nat.le_of_ble_eq_true rfl) (kx_dd d_Mo_init 84 rfl) fl_Mo_143 rfl rfl (kx_dd d_Mo_init 85 rfl) (fun h hB => ?_)
  refine kx_aload_n (pc := 171) (kx_dd d_Mo_init 86 rfl) rfl rfl ?_
  refine kx_bipush (pc := 172) (v := 16) (kx_dd d_Mo_init 87 rfl) rfl ?_
  refine kx_fld (pc := 174) (N1 := 106) (kd := 53) (N' := 16) hB rfl (by decide +kernel) (by decide +kernel) (by decide) ⟨by decide, by decide⟩ rfl wa_53 (by decide) (by decide) (by decide) (Nat.le_of_ble_eq_true rfl) (Nat.le_of_ble_eq_true rfl) (kx_dd d_Mo_init 88 rfl) fl_Mo_112 rfl rfl (kx_dd d_Mo_init 89 rfl) (fun h hB => ?_)
  refine kx_aload_n (pc := 179) (kx_dd d_Mo_init 90 rfl) rfl rfl ?_
  refine kx_iconst (pc := 180) (v := 4) (kx_dd d_Mo_init 91 rfl) rfl ?_
  refine kx_fld (pc := 181) (N1 := 107) (kd := 53) (N' := 4) hB rfl (by decide +kernel) (by decide +kernel) (by decide) ⟨by decide, by decide⟩ rfl wa_53 (by decide) (by decide) (by decide) (Nat.le_of_ble_eq_true rfl) (Nat.le_of_ble_eq_true rfl) (kx_dd d_Mo_init 92 rfl) fl_Mo_193 rfl rfl (kx_dd d_Mo_init 93 rfl) (fun h hB => ?_)
  refine kx_aload_n (pc := 186) (kx_dd d_Mo_init 94 rfl) rfl rfl ?_
  refine kx_iconst (pc := 187) (v := 1) (kx_dd d_Mo_init 95 rfl) rfl ?_
  refine kx_putI (pc := 188) fl_Mo_276 (congrArg Prod.fst (hB.2.2.1.2 (84, 15, 0) (by decide +kernel))) (by decide) rfl rfl (kx_dd d_Mo_init 96 rfl) ?_
  have hB := hB.setI (a := 84) (j := 38) (v := 1) (by decide) (fun q hq => Or.inr (hL q hq))
  refine kx_aload_n (pc := 191) (kx_dd d_Mo_init 97 rfl) rfl rfl ?_
  refine kx_sipush (pc := 192) (v := 200) (kx_dd d_Mo_init 98 rfl) rfl ?_
  refine kx_fld (pc := 195) (N1 := 108) (kd := 50) (N' := 200) hB rfl (by decide +kernel) (by decide +kernel) (by decide) ⟨by decide, by decide⟩ rfl wa_50 (by decide) (by decide) (by decide) (Nat.le_of_ble_eq_true rfl) (Nat.le_of_ble_eq_true rfl) (kx_dd d_Mo_init 99 rfl) fl_Mo_279 rfl rfl (kx_dd d_Mo_init 100 rfl) (fun h hB => ?_)
  refine kx_aload_n (pc := 200) (kx_dd d_Mo_init 101 rfl) rfl rfl ?_
  refine kx_sipush (pc := 201) (v := 200) (kx_dd d_Mo_init 102 rfl) rfl ?_
  refine kx_fld (pc := 204) (N1 := 109) (kd := 50) (N' := 200) hB rfl (by decide +kernel) (by decide +kernel) (by decide) ⟨by decide, by decide⟩ rfl wa_50 (by decide) (by decide) (by decide) (Nat.le_of_ble_eq_true rfl) (Nat.le_of_ble_eq_true rfl) (kx_dd d_Mo_init 103 rfl) fl_Mo_282 rfl rfl (kx_dd d_Mo_init 104 rfl) (fun h hB => ?_)
  refine kx_aload_n (pc := 209) (kx_dd d_Mo_init 105 rfl) rfl rfl ?_
  refine kx_sipush (pc := 210) (v := 200) (kx_dd d_Mo_init 106 rfl) rfl ?_
  refine kx_fld (pc := 213) (N1 := 110) (kd := 50) (N' := 200) hB rfl (by decide +kernel) (by decide +kernel) (by decide) ⟨by decide, by decide⟩ rfl wa_50 (by decide) (by decide) (by decide) (Nat.le_of_ble_eq_true rfl) (Nat.le_of_ble_eq_true rfl) (kx_dd d_Mo_init 107 rfl) fl_Mo_285 rfl rfl (kx_dd d_Mo_init 108 rfl) (fun h hB => ?_)
  refine kx_aload_n (pc := 218) (kx_dd d_Mo_init 109 rfl) rfl rfl ?_
  refine kx_sipush (pc := 219) (v := 200) (kx_dd d_Mo_init 110 rfl) rfl ?_
  refine kx_fld (pc := 222) (N1 := 111) (kd := 50) (N' := 200) hB rfl (by decide +kernel) (by decide +kernel) (by decide) ⟨by decide, by decide⟩ rfl wa_50 (by decide) (by decide) (by decide) (Nat.le_of_ble_eq_true rfl) (Nat.le_of_ble_eq_true rfl) (kx_dd d_Mo_init 111 rfl) fl_Mo_288 rfl rfl (kx_dd d_Mo_init 112 rfl) (fun h hB => ?_)
  refine kx_aload_n (pc := 227) (kx_dd d_Mo_init 113 rfl) rfl rfl ?_
  refine kx_sipush (pc := 228) (v := 200) (kx_dd d_Mo_init 114 rfl) rfl ?_
  refine kx_fld (pc := 231) (N1 := 112) (kd := 50) (N' := 200) hB rfl (by decide +kernel) (by decide +kernel) (by decide) ⟨by decide, by decide⟩ rfl wa_50 (by decide) (by decide) (by decide) (Nat.le_of_ble_eq_true rfl) (Nat.le_of_ble_eq_true rfl) (kx_dd d_Mo_init 115 rfl) fl_Mo_291 rfl rfl (kx_dd d_Mo_init 116 rfl) (fun h hB => ?_)
  refine kx_aload_n (pc := 236) (kx_dd d_Mo_init 117 rfl) rfl rfl ?_
  refine kx_sipush (pc := 237) (v := 200) (kx_dd d_Mo_init 118 rfl) rfl ?_
  refine kx_fld (pc := 240) (N1 := 113) (kd := 50) (N' := 200) hB rfl (by decide +kernel) (by decide +kernel) (by decide) ⟨by decide, by decide⟩ rfl wa_50 (by decide) (by decide) (by decide) (Nat.le_of_ble_eq_true rfl) (Nat.le_of_ble_eq_true rfl) (kx_dd d_Mo_init 119 rfl) fl_Mo_294 rfl rfl (kx_dd d_Mo_init 120 rfl) (fun h hB => ?_)
  refine kx_aload_n (pc := 245) (kx_dd d_Mo_init 121 rfl) rfl rfl ?_
  refine kx_bipush (pc := 246) (v := 60) (kx_dd d_Mo_init 122 rfl) rfl ?_
  refine kx_fld (pc := 248) (N1 := 114) (kd := 50) (N' := 60) hB rfl (by decide +kernel) (by decide +kernel) (by decide) ⟨by decide, by decide⟩ rfl wa_50 (by decide) (by decide) (by decide) (Nat.le_of_ble_eq_true rfl) (Nat.le_of_ble_eq_true rfl) (kx_dd d_Mo_init 123 rfl) fl_Mo_297 rfl rfl (kx_dd d_Mo_init 124 rfl) (fun h hB => ?_)
  refine kx_aload_n (pc := 253) (kx_dd d_Mo_init 125 rfl) rfl rfl ?_
  refine kx_bipush (pc := 254) (v := 60) (kx_dd d_Mo_init 126 rfl) rfl ?_
  refine kx_fld (pc := 256) (N1 := 115) (kd := 50) (N' := 60) hB rfl (by decide +kernel) (by decide +kernel) (by decide) ⟨by decide, by decide⟩ rfl wa_50 (by decide) (by decide) (by decide) (Nat.le_of_ble_eq_true rfl) (Nat.le_of_ble_eq_true rfl) (kx_dd d_Mo_init 127 rfl) fl_Mo_300 rfl rfl (kx_dd d_Mo_init 128 rfl) (fun h hB => ?_)
  refine kx_aload_n (pc := 261) (kx_dd d_Mo_init 129 rfl) rfl rfl ?_
  refine kx_bipush (pc := 262) (v := 60) (kx_dd d_Mo_init 130 rfl) rfl ?_
  refine kx_fld (pc := 264) (N1 := 116) (kd := 50) (N' := 60) hB rfl (by decide +kernel) (by decide +kernel) (by decide) ⟨by decide, by decide⟩ rfl wa_50 (by decide) (by decide) (by decide) (Nat.le_of_ble_eq_true rfl) (Nat.le_of_ble_eq_true rfl) (kx_dd d_Mo_init 131 rfl) fl_Mo_303 rfl rfl (kx_dd d_Mo_init 132 rfl) (fun h hB => ?_)
  refine kx_aload_n (pc := 269) (kx_dd d_Mo_init 133 rfl) rfl rfl ?_
  refine kx_bipush (pc := 270) (v := 60) (kx_dd d_Mo_init 134 rfl) rfl ?_
  refine kx_fld (pc := 272) (N1 := 117) (kd := 50) (N' := 60) hB rfl (by decide +kernel) (by decide +kernel) (by decide) ⟨by decide, by decide⟩ rfl wa_50 (by decide) (by decide) (by decide) (Nat.le_of_ble_eq_true rfl) (Nat.le_of_ble_eq_true rfl) (kx_dd d_Mo_init 135 rfl) fl_Mo_306 rfl rfl (kx_dd d_Mo_init 136 rfl) (fun h hB => ?_)
  refine kx_aload_n (pc := 277) (kx_dd d_Mo_init 137 rfl) rfl rfl ?_
  refine kx_bipush (pc := 278) (v := 60) (kx_dd d_Mo_init 138 rfl) rfl ?_
  refine kx_fld (pc := 280) (N1 := 118) (kd := 53) (N' := 60) hB rfl (by decide +kernel) (by decide +kernel) (by decide) ⟨by decide, by decide⟩ rfl wa_53 (by decide) (by decide) (by decide) (Nat.le_of_ble_eq_true rfl) (Nat.le_of_ble_eq_true rfl) (kx_dd d_Mo_init 139 rfl) fl_Mo_309 rfl rfl (kx_dd d_Mo_init 140 rfl) (fun h hB => ?_)
  refine kx_aload_n (pc := 285) (kx_dd d_Mo_init 141 rfl) rfl rfl ?_
  refine kx_bipush (pc := 286) (v := 30) (kx_dd d_Mo_init 142 rfl) rfl ?_
  refine kx_fld (pc := 288) (N1 := 119) (kd := 50) (N' := 30) hB rfl (by decide +kernel) (by decide +kernel) (by decide) ⟨by decide, by decide⟩ rfl wa_50 (by decide) (by decide) (by decide) (Nat.le_of_ble_eq_true rfl) (Nat.le_of_ble_eq_true rfl) (kx_dd d_Mo_init 143 rfl) fl_Mo_312 rfl rfl (kx_dd d_Mo_init 144 rfl) (fun h hB => ?_)
  refine kx_aload_n (pc := 293) (kx_dd d_Mo_init 145 rfl) rfl rfl ?_
  refine kx_bipush (pc := 294) (v := 30) (kx_dd d_Mo_init 146 rfl) rfl ?_
  refine kx_fld (pc := 296) (N1 := 120) (kd := 50) (N' := 30) hB rfl (by decide +kernel) (by decide +kernel) (by decide) ⟨by decide, by decide⟩ rfl wa_50 (by decide) (by decide) (by decide) (Nat.le_of_ble_eq_true rfl) (Nat.le_of_ble_eq_true rfl) (kx_dd d_Mo_init 147 rfl) fl_Mo_315 rfl rfl (kx_dd d_Mo_init 148 rfl) (fun h hB => ?_)
  refine kx_aload_n (pc := 301) (kx_dd d_Mo_init 149 rfl) rfl rfl ?_
  refine kx_bipush (pc := 302) (v := 30) (kx_dd d_Mo_init 150 rfl) rfl ?_
  refine kx_fld (pc := 304) (N1 := 121) (kd := 50) (N' := 30) hB rfl (by decide +kernel) (by decide +kernel) (by decide) ⟨by decide, by decide⟩ rfl wa_50 (by decide) (by decide) (by decide) (Nat.le_of_ble_eq_true rfl) (Nat.le_of_ble_eq_true rfl) (kx_dd d_Mo_init 151 rfl) fl_Mo_318 rfl rfl (kx_dd d_Mo_init 152 rfl) (fun h hB => ?_)
  refine kx_aload_n (pc := 309) (kx_dd d_Mo_init 153 rfl) rfl rfl ?_
  refine kx_bipush (pc := 310) (v := 30) (kx_dd d_Mo_init 154 rfl) rfl ?_
  refine kx_fld (pc := 312) (N1 := 122) (kd := 50) (N' := 30) hB rfl (by decide +kernel) (by decide +kernel) (by decide) ⟨by decide, by decide⟩ rfl wa_50 (by decide) (by decide) (by decide) (Nat.le_of_ble_eq_true rfl) (Nat.le_of_ble_eq_true rfl) (kx_dd d_Mo_init 155 rfl) fl_Mo_321 rfl rfl (kx_dd d_Mo_init 156 rfl) (fun h hB => ?_)
  refine kx_aload_n (pc := 317) (kx_dd d_Mo_init 157 rfl) rfl rfl ?_
  refine kx_bipush (pc := 318) (v := 60) (kx_dd d_Mo_init 158 rfl) rfl ?_
  refine kx_fld (pc := 320) (N1 := 123) (kd := 50) (N' := 60) hB rfl (by decide +kernel) (by decide +kernel) (by decide) ⟨by decide, by decide⟩ rfl wa_50 (by decide) (by decide) (by decide) (Nat.le_of_ble_eq_true rfl) (Nat.le_of_ble_eq_true rfl) (kx_dd d_Mo_init 159 rfl) fl_Mo_324 rfl rfl (kx_dd d_Mo_init 160 rfl) (fun h hB => ?_)
  refine kx_aload_n (pc := 325) (kx_dd d_Mo_init 161 rfl) rfl rfl ?_
  refine kx_bipush (pc := 326) (v := 60) (kx_dd d_Mo_init 162 rfl) rfl ?_
  refine kx_fld (pc := 328) (N1 := 124) (kd := 50) (N' := 60) hB rfl (by decide +kernel) (by decide +kernel) (by decide) ⟨by decide, by decide⟩ rfl wa_50 (by decide) (by decide) (by decide) (Nat.le_of_ble_eq_true rfl) (Nat.le_of_ble_eq_true rfl) (kx_dd d_Mo_init 163 rfl) fl_Mo_327 rfl rfl (kx_dd d_Mo_init 164 rfl) (fun h hB => ?_)
  refine kx_aload_n (pc := 333) (kx_dd d_Mo_init 165 rfl) rfl rfl ?_
  refine kx_bipush (pc := 334) (v := 60) (kx_dd d_Mo_init 166 rfl) rfl ?_
  refine kx_fld (pc := 336) (N1 := 125) (kd := 50) (N' := 60) hB rfl (by decide +kernel) (by decide +kernel) (by decide) ⟨by decide, by decide⟩ rfl wa_50 (by decide) (by decide) (by decide) (Nat.le_of_ble_eq_true rfl) (Nat.le_of_ble_eq_true rfl) (kx_dd d_Mo_init 167 rfl) fl_Mo_330 rfl rfl (kx_dd d_Mo_init 168 rfl) (fun h hB => ?_)
  refine kx_aload_n (pc := 341) (kx_dd d_Mo_init 169 rfl) rfl rfl ?_
  refine kx_bipush (pc := 342) (v := 60) (kx_dd d_Mo_init 170 rfl) rfl ?_
  refine kx_fld (pc := 344) (N1 := 126) (kd := 50) (N' := 60) hB rfl (by decide +kernel) (by decide +kernel) (by decide) ⟨by decide, by decide⟩ rfl wa_50 (by decide) (by decide) (by decide) (Nat.le_of_ble_eq_true rfl) (Nat.le_of_ble_eq_true rfl) (kx_dd d_Mo_init 171 rfl) fl_Mo_333 rfl rfl (kx_dd d_Mo_init 172 rfl) (fun h hB => ?_)
  refine kx_aload_n (pc := 349) (kx_dd d_Mo_init 173 rfl) rfl rfl ?_
  refine kx_bipush (pc := 350) (v := 60) (kx_dd d_Mo_init 174 rfl) rfl ?_
  refine kx_fld (pc := 352) (N1 := 127) (kd := 50) (N' := 60) hB rfl (by decide +kernel) (by decide +kernel) (by decide) ⟨by decide, by decide⟩ rfl wa_50 (by decide) (by decide) (by decide) (Nat.le_of_ble_eq_true rfl) (Nat.le_of_ble_eq_true rfl) (kx_dd d_Mo_init 175 rfl) fl_Mo_336 rfl rfl (kx_dd d_Mo_init 176 rfl) (fun h hB => ?_)
  refine kx_aload_n (pc := 357) (kx_dd d_Mo_init 177 rfl) rfl rfl ?_
  refine kx_bipush (pc := 358) (v := 60) (kx_dd d_Mo_init 178 rfl) rfl ?_
  refine kx_fld (pc := 360) (N1 := 128) (kd := 50) (N' := 60) hB rfl (by decide +kernel) (by decide +kernel) (by decide) ⟨by decide, by decide⟩ rfl wa_50 (by decide) (by decide) (by decide) (Nat.le_of_ble_eq_true rfl) (Nat.le_of_ble_eq_true rfl) (kx_dd d_Mo_init 179 rfl) fl_Mo_339 rfl rfl (kx_dd d_Mo_init 180 rfl) (fun h hB => ?_)
  refine kx_aload_n (pc := 365) (kx_dd d_Mo_init 181 rfl) rfl rfl ?_
  refine kx_bipush (pc := 366) (v := 60) (kx_dd d_Mo_init 182 rfl) rfl ?_
  refine kx_fld (pc := 368) (N1 := 129) (kd := 50) (N' := 60) hB rfl (by decide +kernel) (by decide +kernel) (by decide) ⟨by decide, by decide⟩ rfl wa_50 (by decide) (by decide) (by decide) (Nat.le_of_ble_eq_true rfl) (Nat.le_of_ble_eq_true rfl) (kx_dd d_Mo_init 183 rfl) fl_Mo_342 rfl rfl (kx_dd d_Mo_init 184 rfl) (fun h hB => ?_)
  refine kx_aload_n (pc := 373) (kx_dd d_Mo_init 185 rfl) rfl rfl ?_
  refine kx_bipush (pc := 374) (v := 60) (kx_dd d_Mo_init 186 rfl) rfl ?_
  refine kx_fld (pc := 376) (N1 := 130) (kd := 50) (N' := 60) hB rfl (by decide +kernel) (by decide +kernel) (by decide) ⟨by decide, by decide⟩ rfl wa_50 (by decide) (by decide) (by decide) (Nat.le_of_ble_eq_true rfl) (Nat.le_of_ble_eq_true rfl) (kx_dd d_Mo_init 187 rfl) fl_Mo_345 rfl rfl (kx_dd d_Mo_init 188 rfl) (fun h hB => ?_)
  refine kx_aload_n (pc := 381) (kx_dd d_Mo_init 189 rfl) rfl rfl ?_
  refine kx_bipush (pc := 382) (v := 60) (kx_dd d_Mo_init 190 rfl) rfl ?_
  refine kx_fld (pc := 384) (N1 := 131) (kd := 50) (N' := 60) hB rfl (by decide +kernel) (by decide +kernel) (by decide) ⟨by decide, by decide⟩ rfl wa_50 (by decide) (by decide) (by decide) (Nat.le_of_ble_eq_true rfl) (Nat.le_of_ble_eq_true rfl) (kx_dd d_Mo_init 191 rfl) fl_Mo_348 rfl rfl (kx_dd d_Mo_init 192 rfl) (fun h hB => ?_)
  refine kx_aload_n (pc := 389) (kx_dd d_Mo_init 193 rfl) rfl rfl ?_
  refine kx_bipush (pc := 390) (v := 60) (kx_dd d_Mo_init 194 rfl) rfl ?_
  refine kx_fld (pc := 392) (N1 := 132) (kd := 50) (N' := 60) hB rfl (by decide +kernel) (by decide +kernel) (by decide) ⟨by decide, by decide⟩ rfl wa_50 (by decide) (by decide) (by decide) (Nat.le_of_ble_eq_true rfl) (Nat.le_of_ble_eq_true rfl) (kx_dd d_Mo_init 195 rfl) fl_Mo_351 rfl rfl (kx_dd d_Mo_init 196 rfl) (fun h hB => ?_)
  refine kx_aload_n (pc := 397) (kx_dd d_Mo_init 197 rfl) rfl rfl ?_
  refine kx_bipush (pc := 398) (v := 60) (kx_dd d_Mo_init 198 rfl) rfl ?_
  refine kx_fld (pc := 400) (N1 := 133) (kd := 50) (N' := 60) hB rfl (by decide +kernel) (by decide +kernel) (by decide) ⟨by decide, by decide⟩ rfl wa_50 (by decide) (by decide) (by decide) (Nat.le_of_ble_eq_true rfl) (Nat.le_of_ble_eq_true rfl) (kx_dd d_Mo_init 199 rfl) fl_Mo_354 rfl rfl (kx_dd d_Mo_init 200 rfl) (fun h hB => ?_)
  refine kx_aload_n (pc := 405) (kx_dd d_Mo_init 201 rfl) rfl rfl ?_
  refine kx_bipush (pc := 406) (v := 60) (kx_dd d_Mo_init 202 rfl) rfl ?_
  refine kx_fld (pc := 408) (N1 := 134) (kd := 50) (N' := 60) hB rfl (by decide +kernel) (by decide +kernel) (by decide) ⟨by decide, by decide⟩ rfl wa_50 (by decide) (by decide) (by decide) (Nat.le_of_ble_eq_true rfl) (Nat.le_of_ble_eq_true rfl) (kx_dd d_Mo_init 203 rfl) fl_Mo_357 rfl rfl (kx_dd d_Mo_init 204 rfl) (fun h hB => ?_)
  refine kx_aload_n (pc := 413) (kx_dd d_Mo_init 205 rfl) rfl rfl ?_
  refine kx_bipush (pc := 414) (v := 60) (kx_dd d_Mo_init 206 rfl) rfl ?_
  refine kx_fld (pc := 416) (N1 := 135) (kd := 50) (N' := 60) hB rfl (by decide +kernel) (by decide +kernel) (by decide) ⟨by decide, by decide⟩ rfl wa_50 (by decide) (by decide) (by decide) (Nat.le_of_ble_eq_true rfl) (Nat.le_of_ble_eq_true rfl) (kx_dd d_Mo_init 207 rfl) fl_Mo_360 rfl rfl (kx_dd d_Mo_init 208 rfl) (fun h hB => ?_)
  refine kx_aload_n (pc := 421) (kx_dd d_Mo_init 209 rfl) rfl rfl ?_
  refine kx_bipush (pc := 422) (v := 60) (kx_dd d_Mo_init 210 rfl) rfl ?_
  refine kx_fld (pc := 424) (N1 := 136) (kd := 50) (N' := 60) hB rfl (by decide +kernel) (by decide +kernel) (by decide) ⟨by decide, by decide⟩ rfl wa_50 (by decide) (by decide) (by decide) (Nat.le_of_ble_eq_true rfl) (Nat.le_of_ble_eq_true rfl) (kx_dd d_Mo_init 211 rfl) fl_Mo_363 rfl rfl (kx_dd d_Mo_init 212 rfl) (fun h hB => ?_)
  refine kx_aload_n (pc := 429) (kx_dd d_Mo_init 213 rfl) rfl rfl ?_
  refine kx_bipush (pc := 430) (v := 60) (kx_dd d_Mo_init 214 rfl) rfl ?_
  refine kx_fld (pc := 432) (N1 := 137) (kd := 50) (N' := 60) hB rfl (by decide +kernel) (by decide +kernel) (by decide) ⟨by decide, by decide⟩ rfl wa_50 (by decide) (by decide) (by decide) (Nat.le_of_ble_eq_true rfl) (Nat.le_of_ble_eq_true rfl) (kx_dd d_Mo_init 215 rfl) fl_Mo_366 rfl rfl (kx_dd d_Mo_init 216 rfl) (fun h hB => ?_)
  refine kx_aload_n (pc := 437) (kx_dd d_Mo_init 217 rfl) rfl rfl ?_
  refine kx_bipush (pc := 438) (v := 60) (kx_dd d_Mo_init 218 rfl) rfl ?_
  refine kx_fld (pc := 440) (N1 := 138) (kd := 50) (N' := 60) hB rfl (by decide +kernel) (by decide +kernel) (by decide) ⟨by decide, by decide⟩ rfl wa_50 (by decide) (by decide) (by decide) (Nat.le_of_ble_eq_true rfl) (Nat.le_of_ble_eq_true rfl) (kx_dd d_Mo_init 219 rfl) fl_Mo_369 rfl rfl (kx_dd d_Mo_init 220 rfl) (fun h hB => ?_)
  refine kx_aload_n (pc := 445) (kx_dd d_Mo_init 221 rfl) rfl rfl ?_
  refine kx_bipush (pc := 446) (v := 60) (kx_dd d_Mo_init 222 rfl) rfl ?_
  refine kx_fld (pc := 448) (N1 := 139) (kd := 50) (N' := 60) hB rfl (by decide +kernel) (by decide +kernel) (by decide) ⟨by decide, by decide⟩ rfl wa_50 (by decide) (by decide) (by decide) (Nat.le_of_ble_eq_true rfl) (Nat.le_of_ble_eq_true rfl) (kx_dd d_Mo_init 223 rfl) fl_Mo_372 rfl rfl (kx_dd d_Mo_init 224 rfl) (fun h hB => ?_)
  refine kx_aload_n (pc := 453) (kx_dd d_Mo_init 225 rfl) rfl rfl ?_
  refine kx_sipush (pc := 454) (v := 150) (kx_dd d_Mo_init 226 rfl) rfl ?_
  refine kx_fld (pc := 457) (N1 := 140) (kd := 50) (N' := 150) hB rfl (by decide +kernel) (by decide +kernel) (by decide) ⟨by decide, by decide⟩ rfl wa_50 (by decide) (by decide) (by decide) (Nat.le_of_ble_eq_true rfl) (Nat.le_of_ble_eq_true rfl) (kx_dd d_Mo_init 227 rfl) fl_Mo_375 rfl rfl (kx_dd d_Mo_init 228 rfl) (fun h hB => ?_)
  refine kx_aload_n (pc := 462) (kx_dd d_Mo_init 229 rfl) rfl rfl ?_
  refine kx_sipush (pc := 463) (v := 150) (kx_dd d_Mo_init 230 rfl) rfl ?_
  refine kx_fld (pc := 466) (N1 := 141) (kd := 50) (N' := 150) hB rfl (by decide +kernel) (by decide +kernel) (by decide) ⟨by decide, by decide⟩ rfl wa_50 (by decide) (by decide) (by decide) (Nat.le_of_ble_eq_true rfl) (Nat.le_of_ble_eq_true rfl) (kx_dd d_Mo_init 231 rfl) fl_Mo_378 rfl rfl (kx_dd d_Mo_init 232 rfl) (fun h hB => ?_)
  refine kx_aload_n (pc := 471) (kx_dd d_Mo_init 233 rfl) rfl rfl ?_
  refine kx_sipush (pc := 472) (v := 150) (kx_dd d_Mo_init 234 rfl) rfl ?_
  refine kx_fld (pc := 475) (N1 := 142) (kd := 50) (N' := 150) hB rfl (by decide +kernel) (by decide +kernel) (by decide) ⟨by decide, by decide⟩ rfl wa_50 (by decide) (by decide) (by decide) (Nat.le_of_ble_eq_true rfl) (Nat.le_of_ble_eq_true rfl) (kx_dd d_Mo_init 235 rfl) fl_Mo_381 rfl rfl (kx_dd d_Mo_init 236 rfl) (fun h hB => ?_)
  refine kx_aload_n (pc := 480) (kx_dd d_Mo_init 237 rfl) rfl rfl ?_
  refine kx_sipush (pc := 481) (v := 150) (kx_dd d_Mo_init 238 rfl) rfl ?_
  refine kx_fld (pc := 484) (N1 := 143) (kd := 50) (N' := 150) hB rfl (by decide +kernel) (by decide +kernel) (by decide) ⟨by decide, by decide⟩ rfl wa_50 (by decide) (by decide) (by decide) (Nat.le_of_ble_eq_true rfl) (Nat.le_of_ble_eq_true rfl) (kx_dd d_Mo_init 239 rfl) fl_Mo_384 rfl rfl (kx_dd d_Mo_init 240 rfl) (fun h hB => ?_)
  refine kx_aload_n (pc := 489) (kx_dd d_Mo_init 241 rfl) rfl rfl ?_
  refine kx_sipush (pc := 490) (v := 150) (kx_dd d_Mo_init 242 rfl) rfl ?_
  refine kx_fld (pc := 493) (N1 := 144) (kd := 50) (N' := 150) hB rfl (by decide +kernel) (by decide +kernel) (by decide) ⟨by decide, by decide⟩ rfl wa_50 (by decide) (by decide) (by decide) (Nat.le_of_ble_eq_true rfl) (Nat.le_of_ble_eq_true rfl) (kx_dd d_Mo_init 243 rfl) fl_Mo_387 rfl rfl (kx_dd d_Mo_init 244 rfl) (fun h hB => ?_)
  refine kx_aload_n (pc := 498) (kx_dd d_Mo_init 245 rfl) rfl rfl ?_
  refine kx_bipush (pc := 499) (v := 60) (kx_dd d_Mo_init 246 rfl) rfl ?_
  refine kx_fld (pc := 501) (N1 := 145) (kd := 53) (N' := 60) hB rfl (by decide +kernel) (by decide +kernel) (by decide) ⟨by decide, by decide⟩ rfl wa_53 (by decide) (by decide) (by decide) (Nat.le_of_ble_eq_true rfl) (Nat.le_of_ble_eq_true rfl) (kx_dd d_Mo_init 247 rfl) fl_Mo_390 rfl rfl (kx_dd d_Mo_init 248 rfl) (fun h hB => ?_)
  refine kx_aload_n (pc := 506) (kx_dd d_Mo_init 249 rfl) rfl rfl ?_
  refine kx_bipush (pc := 507) (v := 60) (kx_dd d_Mo_init 250 rfl) rfl ?_
  refine kx_fld (pc := 509) (N1 := 146) (kd := 50) (N' := 60) hB rfl (by decide +kernel) (by decide +kernel) (by decide) ⟨by decide, by decide⟩ rfl wa_50 (by decide) (by decide) (by decide) (Nat.le_of_ble_eq_true rfl) (Nat.le_of_ble_eq_true rfl) (kx_dd d_Mo_init 251 rfl) fl_Mo_393 rfl rfl (kx_dd d_Mo_init 252 rfl) (fun h hB => ?_)
  refine kx_aload_n (pc := 514) (kx_dd d_Mo_init 253 rfl) rfl rfl ?_
  refine kx_bipush (pc := 515) (v := 60) (kx_dd d_Mo_init 254 rfl) rfl ?_
  refine kx_fld (pc := 517) (N1 := 147) (kd := 51) (N' := 60) hB rfl (by decide +kernel) (by decide +kernel) (by decide) ⟨by decide, by decide⟩ rfl wa_51 (by decide) (by decide) (by decide) (Nat.le_of_ble_eq_true rfl) (Nat.le_of_ble_eq_true rfl) (kx_dd d_Mo_init 255 rfl) fl_Mo_396 rfl rfl (kx_dd d_Mo_init 256 rfl) (fun h hB => ?_)
  refine kx_aload_n (pc := 522) (kx_dd d_Mo_init 257 rfl) rfl rfl ?_
  refine kx_iconst (pc := 523) (v := 3) (kx_dd d_Mo_init 258 rfl) rfl ?_
  refine kx_fld (pc := 524) (N1 := 148) (kd := 50) (N' := 3) hB rfl (by decide +kernel) (by decide +kernel) (by decide) ⟨by decide, by decide⟩ rfl wa_50 (by decide) (by decide) (by decide) (Nat.le_of_ble_eq_true rfl) (Nat.le_of_ble_eq_true rfl) (kx_dd d_Mo_init 259 rfl) fl_Mo_400 rfl rfl (kx_dd d_Mo_init 260 rfl) (fun h hB => ?_)
  refine kx_aload_n (pc := 529) (kx_dd d_Mo_init 261 rfl) rfl rfl ?_
  refine kx_iconst (pc := 530) (v := 3) (kx_dd d_Mo_init 262 rfl) rfl ?_
  refine kx_fld (pc := 531) (N1 := 149) (kd := 50) (N' := 3) hB rfl (by decide +kernel) (by decide +kernel) (by decide) ⟨by decide, by decide⟩ rfl wa_50 (by decide) (by decide) (by decide) (Nat.le_of_ble_eq_true rfl) (Nat.le_of_ble_eq_true rfl) (kx_dd d_Mo_init 263 rfl) fl_Mo_403 rfl rfl (kx_dd d_Mo_init 264 rfl) (fun h hB => ?_)
  refine kx_aload_n (pc := 536) (kx_dd d_Mo_init 265 rfl) rfl rfl ?_
  refine kx_sipush (pc := 537) (v := 180) (kx_dd d_Mo_init 266 rfl) rfl ?_
  refine kx_fld (pc := 540) (N1 := 150) (kd := 50) (N' := 180) hB rfl (by decide +kernel) (by decide +kernel) (by decide) ⟨by decide, by decide⟩ rfl wa_50 (by decide) (by decide) (by decide) (Nat.le_of_ble_eq_true rfl) (Nat.le_of_ble_eq_true rfl) (kx_dd d_Mo_init 267 rfl) fl_Mo_406 rfl rfl (kx_dd d_Mo_init 268 rfl) (fun h hB => ?_)
  refine kx_aload_n (pc := 545) (kx_dd d_Mo_init 269 rfl) rfl rfl ?_
  refine kx_sipush (pc := 546) (v := 180) (kx_dd d_Mo_init 270 rfl) rfl ?_
  refine kx_fld (pc := 549) (N1 := 151) (kd := 50) (N' := 180) hB rfl (by decide +kernel) (by decide +kernel) (by decide) ⟨by decide, by decide⟩ rfl wa_50 (by decide) (by decide) (by decide) (Nat.le_of_ble_eq_true rfl) (Nat.le_of_ble_eq_true rfl) (kx_dd d_Mo_init 271 rfl) fl_Mo_409 rfl rfl (kx_dd d_Mo_init 272 rfl) (fun h hB => ?_)
  refine kx_aload_n (pc := 554) (kx_dd d_Mo_init 273 rfl) rfl rfl ?_
  refine kx_bipush (pc := 555) (v := 60) (kx_dd d_Mo_init 274 rfl) rfl ?_
  refine kx_fld (pc := 557) (N1 := 152) (kd := 50) (N' := 60) hB rfl (by decide +kernel) (by decide +kernel) (by decide) ⟨by decide, by decide⟩ rfl wa_50 (by decide) (by decide) (by decide) (Nat.le_of_ble_eq_true rfl) (Nat.le_of_ble_eq_true rfl) (kx_dd d_Mo_init 275 rfl) fl_Mo_412 rfl rfl (kx_dd d_Mo_init 276 rfl) (fun h hB => ?_)
  refine kx_aload_n (pc := 562) (kx_dd d_Mo_init 277 rfl) rfl rfl ?_
  refine kx_bipush (pc := 563) (v := 60) (kx_dd d_Mo_init 278 rfl) rfl ?_
  refine kx_fld (pc := 565) (N1 := 153) (kd := 50) (N' := 60) hB rfl (by decide +kernel) (by decide +kernel) (by decide) ⟨by decide, by decide⟩ rfl wa_50 (by decide) (by decide) (by decide) (Nat.le_of_ble_eq_true rfl) (Nat.le_of_ble_eq_true rfl) (kx_dd d_Mo_init 279 rfl) fl_Mo_415 rfl rfl (kx_dd d_Mo_init 280 rfl) (fun h hB => ?_)
  refine kx_aload_n (pc := 570) (kx_dd d_Mo_init 281 rfl) rfl rfl ?_
  refine kx_bipush (pc := 571) (v := 60) (kx_dd d_Mo_init 282 rfl) rfl ?_
  refine kx_fld (pc := 573) (N1 := 154) (kd := 51) (N' := 60) hB rfl (by decide +kernel) (by decide +kernel) (by decide) ⟨by decide, by decide⟩ rfl wa_51 (by decide) (by decide) (by decide) (Nat.le_of_ble_eq_true rfl) (Nat.le_of_ble_eq_true rfl) (kx_dd d_Mo_init 283 rfl) fl_Mo_418 rfl rfl (kx_dd d_Mo_init 284 rfl) (fun h hB => ?_)
  have hB := (hB.sub (R' := rM ++ rC9) (T' := tM ++ tC) (by decide +kernel) (by decide +kernel)).mono (E' := EM E) (fun x y z q => by unfold EM; rcases q with q | ⟨q1, q | ⟨q2, q⟩⟩; exact Or.inr (Or.inl q); exact Or.inl q; exact Or.inr (Or.inr ⟨by omega, q⟩))
  have hm : SM h := ⟨fun q hq => hB.2.2.1.1 q (List.mem_append_left _ hq), fun q hq => hB.2.2.1.2 q (List.mem_append_left _ hq)⟩
  have n0 := hB.1
  refine kx_iconst (pc := 578) (v := nI 0) (kx_dd d_Mo_init 285 rfl) rfl ?_
  refine kx_istore_ne (pc := 579) (lv' := [_, _]) (kx_dd d_Mo_init 286 rfl) rfl (Nat.le_of_ble_eq_true rfl) rfl ?_
  refine kx_iload_n (pc := 580) (kx_dd d_Mo_init 287 rfl) rfl rfl ?_
  refine kx_iconst (pc := 581) (v := 5) (kx_dd d_Mo_init 288 rfl) rfl ?_
  refine kx_icmp_ge (pc := 582) (tgt := 596) (kx_dd d_Mo_init 289 rfl) rfl (fun z => absurd z (by decide)) (fun _ => ?_)
  refine kx_aload_n (pc := 585) (kx_dd d_Mo_init 290 rfl) rfl rfl ?_
  refine kx_iload_n (pc := 586) (kx_dd d_Mo_init 291 rfl) rfl rfl ?_
  refine kx_invV (pc := 587) (a := 84) (as := [_]) (kx_dd d_Mo_init 292 rfl) ⟨lk_Mo_139, wi_Mo_plain, we_Mo_plain⟩ w_Mo_plain (hm.k 0 rfl) rfl rfl rfl rfl (Nat.le_of_ble_eq_true rfl) (y_plain (d := d + 3) hm ⟨by omega, by omega⟩ 0 (by decide)) (Nat.le_refl _) ⟨Nat.le_of_ble_eq_true rfl, Nat.le_of_ble_eq_true rfl⟩ (fun v h' hq => ?_)
  revert h'
  intro h1 hq
  obtain ⟨rfl, hf0, n1, hr0⟩ := hq
  have hm := SM_fn hm hf0 (by omega)
  refine kx_iinc_e (pc := 590) (v := nI 1) (lv' := [_, _]) (kx_dd d_Mo_init 293 rfl) rfl (Nat.le_of_ble_eq_true rfl) rfl rfl ?_
  refine kx_goto (pc := 593) (tgt := 580) (kx_dd d_Mo_init 294 rfl) rfl ?_
  refine kx_iload_n (pc := 580) (kx_dd d_Mo_init 287 rfl) rfl rfl ?_
  refine kx_iconst (pc := 581) (v := 5) (kx_dd d_Mo_init 288 rfl) rfl ?_
  refine kx_icmp_ge (pc := 582) (tgt := 596) (kx_dd d_Mo_init 289 rfl) rfl (fun z => absurd z (by decide)) (fun _ => ?_)
  refine kx_aload_n (pc := 585) (kx_dd d_Mo_init 290 rfl) rfl rfl ?_
  refine kx_iload_n (pc := 586) (kx_dd d_Mo_init 291 rfl) rfl rfl ?_
  refine kx_invV (pc := 587) (a := 84) (as := [_]) (kx_dd d_Mo_init 292 rfl) ⟨lk_Mo_139, wi_Mo_plain, we_Mo_plain⟩ w_Mo_plain (hm.k 0 rfl) rfl rfl rfl rfl (Nat.le_of_ble_eq_true rfl) (y_plain (d := d + 3) hm ⟨by omega, by omega⟩ 1 (by decide)) (Nat.le_refl _) ⟨Nat.le_of_ble_eq_true rfl, Nat.le_of_ble_eq_true rfl⟩ (fun v h' hq => ?_)
  revert h'
  intro h2 hq
  obtain ⟨rfl, hf1, n2, hr1⟩ := hq
  have hm := SM_fn hm hf1 (by omega)
  refine kx_iinc_e (pc := 590) (v := nI 2) (lv' := [_, _]) (kx_dd d_Mo_init 293 rfl) rfl (Nat.le_of_ble_eq_true rfl) rfl rfl ?_
  refine kx_goto (pc := 593) (tgt := 580) (kx_dd d_Mo_init 294 rfl) rfl ?_
  refine kx_iload_n (pc := 580) (kx_dd d_Mo_init 287 rfl) rfl rfl ?_
  refine kx_iconst (pc := 581) (v := 5) (kx_dd d_Mo_init 288 rfl) rfl ?_
  refine kx_icmp_ge (pc := 582) (tgt := 596) (kx_dd d_Mo_init 289 rfl) rfl (fun z => absurd z (by decide)) (fun _ => ?_)
  refine kx_aload_n (pc := 585) (kx_dd d_Mo_init 290 rfl) rfl rfl ?_
  refine kx_iload_n (pc := 586) (kx_dd d_Mo_init 291 rfl) rfl rfl ?_
  refine kx_invV (pc := 587) (a := 84) (as := [_]) (kx_dd d_Mo_init 292 rfl) ⟨lk_Mo_139, wi_Mo_plain, we_Mo_plain⟩ w_Mo_plain (hm.k 0 rfl) rfl rfl rfl rfl (Nat.le_of_ble_eq_true rfl) (y_plain (d := d + 3) hm ⟨by omega, by omega⟩ 2 (by decide)) (Nat.le_refl _) ⟨Nat.le_of_ble_eq_true rfl, Nat.le_of_ble_eq_true rfl⟩ (fun v h' hq => ?_)
  revert h'
  intro h3 hq
  obtain ⟨rfl, hf2, n3, hr2⟩ := hq
  have hm := SM_fn hm hf2 (by omega)
  refine kx_iinc_e (pc := 590) (v := nI 3) (lv' := [_, _]) (kx_dd d_Mo_init 293 rfl) rfl (Nat.le_of_ble_eq_true rfl) rfl rfl ?_
  refine kx_goto (pc := 593) (tgt := 580) (kx_dd d_Mo_init 294 rfl) rfl ?_
  refine kx_iload_n (pc := 580) (kx_dd d_Mo_init 287 rfl) rfl rfl ?_
  refine kx_iconst (pc := 581) (v := 5) (kx_dd d_Mo_init 288 rfl) rfl ?_
  refine kx_icmp_ge (pc := 582) (tgt := 596) (kx_dd d_Mo_init 289 rfl) rfl (fun z => absurd z (by decide)) (fun _ => ?_)
  refine kx_aload_n (pc := 585) (kx_dd d_Mo_init 290 rfl) rfl rfl ?_
  refine kx_iload_n (pc := 586) (kx_dd d_Mo_init 291 rfl) rfl rfl ?_
  refine kx_invV (pc := 587) (a := 84) (as := [_]) (kx_dd d_Mo_init 292 rfl) ⟨lk_Mo_139, wi_Mo_plain, we_Mo_plain⟩ w_Mo_plain (hm.k 0 rfl) rfl rfl rfl rfl (Nat.le_of_ble_eq_true rfl) (y_plain (d := d + 3) hm ⟨by omega, by omega⟩ 3 (by decide)) (Nat.le_refl _) ⟨Nat.le_of_ble_eq_true rfl, Nat.le_of_ble_eq_true rfl⟩ (fun v h' hq => ?_)
  revert h'
  intro h4 hq
  obtain ⟨rfl, hf3, n4, hr3⟩ := hq
  have hm := SM_fn hm hf3 (by omega)
  refine kx_iinc_e (pc := 590) (v := nI 4) (lv' := [_, _]) (kx_dd d_Mo_init 293 rfl) rfl (Nat.le_of_ble_eq_true rfl) rfl rfl ?_
  refine kx_goto (pc := 593) (tgt := 580) (kx_dd d_Mo_init 294 rfl) rfl ?_
  refine kx_iload_n (pc := 580) (kx_dd d_Mo_init 287 rfl) rfl rfl ?_
  refine kx_iconst (pc := 581) (v := 5) (kx_dd d_Mo_init 288 rfl) rfl ?_
  refine kx_icmp_ge (pc := 582) (tgt := 596) (kx_dd d_Mo_init 289 rfl) rfl (fun z => absurd z (by decide)) (fun _ => ?_)
  refine kx_aload_n (pc := 585) (kx_dd d_Mo_init 290 rfl) rfl rfl ?_
  refine kx_iload_n (pc := 586) (kx_dd d_Mo_init 291 rfl) rfl rfl ?_
  refine kx_invV (pc := 587) (a := 84) (as := [_]) (kx_dd d_Mo_init 292 rfl) ⟨lk_Mo_139, wi_Mo_plain, we_Mo_plain⟩ w_Mo_plain (hm.k 0 rfl) rfl rfl rfl rfl (Nat.le_of_ble_eq_true rfl) (y_plain (d := d + 3) hm ⟨by omega, by omega⟩ 4 (by decide)) (Nat.le_refl _) ⟨Nat.le_of_ble_eq_true rfl, Nat.le_of_ble_eq_true rfl⟩ (fun v h' hq => ?_)
  revert h'
  intro h5 hq
  obtain ⟨rfl, hf4, n5, hr4⟩ := hq
  have hm := SM_fn hm hf4 (by omega)
  refine kx_iinc_e (pc := 590) (v := nI 5) (lv' := [_, _]) (kx_dd d_Mo_init 293 rfl) rfl (Nat.le_of_ble_eq_true rfl) rfl rfl ?_
  refine kx_goto (pc := 593) (tgt := 580) (kx_dd d_Mo_init 294 rfl) rfl ?_
  refine kx_iload_n (pc := 580) (kx_dd d_Mo_init 287 rfl) rfl rfl ?_
  refine kx_iconst (pc := 581) (v := 5) (kx_dd d_Mo_init 288 rfl) rfl ?_
  refine kx_icmp_ge (pc := 582) (tgt := 596) (kx_dd d_Mo_init 289 rfl) rfl (fun _ => ?_) (fun z => absurd (by decide) z)
  refine kx_vret (pc := 596) rfl (kx_dd d_Mo_init 295 rfl) (Nat.le_of_ble_eq_true rfl) (Nat.le_of_ble_eq_true rfl) ⟨rfl, h, hB, ((((hf0.mono (fun a j z => Or.inl z)).tr (hf1.mono (fun a j z => Or.inr (Or.inl z)))).tr (hf2.mono (fun a j z => Or.inr (Or.inr (Or.inl z))))).tr (hf3.mono (fun a j z => Or.inr (Or.inr (Or.inr (Or.inl z)))))).tr (hf4.mono (fun a j z => Or.inr (Or.inr (Or.inr (Or.inr z))))), by omega, fun u hu n T => ?_⟩
  have eu : u = 0 ∨ u = 1 ∨ u = 2 ∨ u = 3 ∨ u = 4 := by omega
  rcases eu with rfl | rfl | rfl | rfl | rfl
  · exact (RUm.pv (v := 4) (RUm.pv (v := 3) (RUm.pv (v := 2) (RUm.pv (v := 1) (hr0 n T) (by decide) hf1 (by omega)) (by decide) hf2 (by omega)) (by decide) hf3 (by omega)) (by decide) hf4 (by omega))
  · exact (RUm.pv (v := 4) (RUm.pv (v := 3) (RUm.pv (v := 2) (hr1 n T) (by decide) hf2 (by omega)) (by decide) hf3 (by omega)) (by decide) hf4 (by omega))
  · exact (RUm.pv (v := 4) (RUm.pv (v := 3) (hr2 n T) (by decide) hf3 (by omega)) (by decide) hf4 (by omega))
  · exact (RUm.pv (v := 4) (hr3 n T) (by decide) hf4 (by omega))
  · exact (hr4 n T)
