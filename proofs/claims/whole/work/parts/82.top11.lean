/-! top-level: the reference: about -/
theorem y_about {l : Launch} {g : kx_G} {d : Nat} {h : kx_Mem} (hm : SM h) (nw : Nat) (T : Nat → Nat) (hwt : WTok nw T) (D : DK) (ho : DKok D) (hp : DKm D nw T h) (a w : Int32) : kx_Sp l g m_Mo_about [.ref 84, .int a, .int w] h (d + 2) 0 0 (fun v h' => v = some (.int (if 0 ≤ a ∧ a < nI D.2.2.1.1 then detC D a.toNatClampNeg w else -9)) ∧ h' = h) := by
  have o1 := ho.2.2.1.1
  refine kx_enter_e (lv := [_, _, _]) (by decide +kernel) (Nat.le_of_ble_eq_true rfl) rfl ?_
  refine kx_aload_n (pc := 0) (kx_dd d_Mo_about 0 rfl) rfl rfl ?_
  refine kx_iload_n (pc := 1) (kx_dd d_Mo_about 1 rfl) rfl rfl ?_
  refine kx_invV (pc := 2) (a := 84) (as := [_]) (kx_dd d_Mo_about 2 rfl) ⟨lk_Mo_520, wi_Mo_isClaim, we_Mo_isClaim⟩ w_Mo_isClaim (hm.k 0 rfl) rfl rfl rfl rfl (Nat.le_of_ble_eq_true rfl) (y_isClaim (d := d) hm nw T hwt D ho hp a) (Nat.le_refl _) ⟨Nat.le_refl _, Nat.le_refl _⟩ (fun v h' hq => ?_)
  obtain ⟨rfl, he⟩ := hq
  rw [he]
  clear he
  refine kx_if_ne (pc := 5) (tgt := 11) (kx_dd d_Mo_about 3 rfl) rfl (fun c5 => ?_) (fun c5 => ?_)
  · have c5 := (bP_ti _).mp c5
    obtain ⟨a9, ha9, rfl⟩ := valP (n := D.2.2.1.1) (by omega) c5
    refine kx_iload_n (pc := 11) (kx_dd d_Mo_about 6 rfl) rfl rfl ?_
    by_cases e12_0 : w = 0
    · refine kx_tableIn (pc := 12) (tgt := 84) (kx_dd d_Mo_about 7 rfl) (by rw [e12_0] <;> decide) (by rw [e12_0] <;> decide) (by rw [e12_0] <;> rfl) rfl ?_
      refine kx_aload_n (pc := 84) (kx_dd d_Mo_about 8 rfl) rfl rfl ?_
      refine kx_getR (pc := 85) (b := 122) fl_Mo_324 (hm.k 0 rfl) rfl (hm.r 37 rfl) (kx_dd d_Mo_about 9 rfl) ?_
      refine kx_iload_n (pc := 88) (kx_dd d_Mo_about 10 rfl) rfl rfl ?_
      refine kx_ialdn (pc := 89) a9 (hm.t 38 rfl) rfl (by omega) (by decide) (kx_dd d_Mo_about 11 rfl) ?_
      refine kx_iret (pc := 90) rfl (kx_dd d_Mo_about 12 rfl) (Nat.le_refl _) (Nat.le_refl _) ?_
      have f9 : h.1 122 a9 = D.2.2.1.2.1 a9 0 := (hp.2.2.1.2 a9 ha9).1 0 (by decide) (by decide) (by decide)
      refine ⟨?_, rfl⟩
      rw [if_pos c5, nI_clamp (by omega)]
      unfold detC
      rw [if_pos e12_0, f9]
    · skip
      by_cases e12_1 : w = 1
      · refine kx_tableIn (pc := 12) (tgt := 91) (kx_dd d_Mo_about 7 rfl) (by rw [e12_1] <;> decide) (by rw [e12_1] <;> decide) (by rw [e12_1] <;> rfl) rfl ?_
        refine kx_aload_n (pc := 91) (kx_dd d_Mo_about 13 rfl) rfl rfl ?_
        refine kx_getR (pc := 92) (b := 123) fl_Mo_327 (hm.k 0 rfl) rfl (hm.r 38 rfl) (kx_dd d_Mo_about 14 rfl) ?_
        refine kx_iload_n (pc := 95) (kx_dd d_Mo_about 15 rfl) rfl rfl ?_
        refine kx_ialdn (pc := 96) a9 (hm.t 39 rfl) rfl (by omega) (by decide) (kx_dd d_Mo_about 16 rfl) ?_
        refine kx_iret (pc := 97) rfl (kx_dd d_Mo_about 17 rfl) (Nat.le_refl _) (Nat.le_refl _) ?_
        have f9 : h.1 123 a9 = D.2.2.1.2.1 a9 1 := (hp.2.2.1.2 a9 ha9).1 1 (by decide) (by decide) (by decide)
        refine ⟨?_, rfl⟩
        rw [if_pos c5, nI_clamp (by omega)]
        unfold detC
        rw [if_neg e12_0, if_pos e12_1, f9]
      · skip
        by_cases e12_2 : w = 2
        · refine kx_tableIn (pc := 12) (tgt := 98) (kx_dd d_Mo_about 7 rfl) (by rw [e12_2] <;> decide) (by rw [e12_2] <;> decide) (by rw [e12_2] <;> rfl) rfl ?_
          refine kx_aload_n (pc := 98) (kx_dd d_Mo_about 18 rfl) rfl rfl ?_
          refine kx_getR (pc := 99) (b := 124) fl_Mo_330 (hm.k 0 rfl) rfl (hm.r 39 rfl) (kx_dd d_Mo_about 19 rfl) ?_
          refine kx_iload_n (pc := 102) (kx_dd d_Mo_about 20 rfl) rfl rfl ?_
          refine kx_ialdn (pc := 103) a9 (hm.t 40 rfl) rfl (by omega) (by decide) (kx_dd d_Mo_about 21 rfl) ?_
          refine kx_iret (pc := 104) rfl (kx_dd d_Mo_about 22 rfl) (Nat.le_refl _) (Nat.le_refl _) ?_
          have f9 : h.1 124 a9 = D.2.2.1.2.1 a9 2 := (hp.2.2.1.2 a9 ha9).1 2 (by decide) (by decide) (by decide)
          refine ⟨?_, rfl⟩
          rw [if_pos c5, nI_clamp (by omega)]
          unfold detC
          rw [if_neg e12_0, if_neg e12_1, if_pos e12_2, f9]
        · skip
          by_cases e12_3 : w = 3
          · refine kx_tableIn (pc := 12) (tgt := 105) (kx_dd d_Mo_about 7 rfl) (by rw [e12_3] <;> decide) (by rw [e12_3] <;> decide) (by rw [e12_3] <;> rfl) rfl ?_
            refine kx_aload_n (pc := 105) (kx_dd d_Mo_about 23 rfl) rfl rfl ?_
            refine kx_getR (pc := 106) (b := 125) fl_Mo_333 (hm.k 0 rfl) rfl (hm.r 40 rfl) (kx_dd d_Mo_about 24 rfl) ?_
            refine kx_iload_n (pc := 109) (kx_dd d_Mo_about 25 rfl) rfl rfl ?_
            refine kx_ialdn (pc := 110) a9 (hm.t 41 rfl) rfl (by omega) (by decide) (kx_dd d_Mo_about 26 rfl) ?_
            refine kx_iret (pc := 111) rfl (kx_dd d_Mo_about 27 rfl) (Nat.le_refl _) (Nat.le_refl _) ?_
            have f9 : h.1 125 a9 = D.2.2.1.2.1 a9 3 := (hp.2.2.1.2 a9 ha9).1 3 (by decide) (by decide) (by decide)
            refine ⟨?_, rfl⟩
            rw [if_pos c5, nI_clamp (by omega)]
            unfold detC
            rw [if_neg e12_0, if_neg e12_1, if_neg e12_2, if_pos e12_3, f9]
          · skip
            by_cases e12_4 : w = 4
            · refine kx_tableIn (pc := 12) (tgt := 112) (kx_dd d_Mo_about 7 rfl) (by rw [e12_4] <;> decide) (by rw [e12_4] <;> decide) (by rw [e12_4] <;> rfl) rfl ?_
              refine kx_aload_n (pc := 112) (kx_dd d_Mo_about 28 rfl) rfl rfl ?_
              refine kx_getR (pc := 113) (b := 126) fl_Mo_336 (hm.k 0 rfl) rfl (hm.r 41 rfl) (kx_dd d_Mo_about 29 rfl) ?_
              refine kx_iload_n (pc := 116) (kx_dd d_Mo_about 30 rfl) rfl rfl ?_
              refine kx_ialdn (pc := 117) a9 (hm.t 42 rfl) rfl (by omega) (by decide) (kx_dd d_Mo_about 31 rfl) ?_
              refine kx_iret (pc := 118) rfl (kx_dd d_Mo_about 32 rfl) (Nat.le_refl _) (Nat.le_refl _) ?_
              have f9 : h.1 126 a9 = D.2.2.1.2.1 a9 4 := (hp.2.2.1.2 a9 ha9).1 4 (by decide) (by decide) (by decide)
              refine ⟨?_, rfl⟩
              rw [if_pos c5, nI_clamp (by omega)]
              unfold detC
              rw [if_neg e12_0, if_neg e12_1, if_neg e12_2, if_neg e12_3, if_pos e12_4, f9]
            · skip
              by_cases e12_5 : w = 5
              · refine kx_tableIn (pc := 12) (tgt := 119) (kx_dd d_Mo_about 7 rfl) (by rw [e12_5] <;> decide) (by rw [e12_5] <;> decide) (by rw [e12_5] <;> rfl) rfl ?_
                refine kx_aload_n (pc := 119) (kx_dd d_Mo_about 33 rfl) rfl rfl ?_
                refine kx_getR (pc := 120) (b := 128) fl_Mo_342 (hm.k 0 rfl) rfl (hm.r 43 rfl) (kx_dd d_Mo_about 34 rfl) ?_
                refine kx_iload_n (pc := 123) (kx_dd d_Mo_about 35 rfl) rfl rfl ?_
                refine kx_ialdn (pc := 124) a9 (hm.t 44 rfl) rfl (by omega) (by decide) (kx_dd d_Mo_about 36 rfl) ?_
                refine kx_iret (pc := 125) rfl (kx_dd d_Mo_about 37 rfl) (Nat.le_refl _) (Nat.le_refl _) ?_
                have f9 : h.1 128 a9 = D.2.2.1.2.1 a9 5 := (hp.2.2.1.2 a9 ha9).2.1
                refine ⟨?_, rfl⟩
                rw [if_pos c5, nI_clamp (by omega)]
                unfold detC
                rw [if_neg e12_0, if_neg e12_1, if_neg e12_2, if_neg e12_3, if_neg e12_4, if_pos e12_5, f9]
              · skip
                by_cases e12_6 : w = 6
                · refine kx_tableIn (pc := 12) (tgt := 126) (kx_dd d_Mo_about 7 rfl) (by rw [e12_6] <;> decide) (by rw [e12_6] <;> decide) (by rw [e12_6] <;> rfl) rfl ?_
                  refine kx_aload_n (pc := 126) (kx_dd d_Mo_about 38 rfl) rfl rfl ?_
                  refine kx_getR (pc := 127) (b := 129) fl_Mo_345 (hm.k 0 rfl) rfl (hm.r 44 rfl) (kx_dd d_Mo_about 39 rfl) ?_
                  refine kx_iload_n (pc := 130) (kx_dd d_Mo_about 40 rfl) rfl rfl ?_
                  refine kx_ialdn (pc := 131) a9 (hm.t 45 rfl) rfl (by omega) (by decide) (kx_dd d_Mo_about 41 rfl) ?_
                  refine kx_iret (pc := 132) rfl (kx_dd d_Mo_about 42 rfl) (Nat.le_refl _) (Nat.le_refl _) ?_
                  have f9 : h.1 129 a9 = D.2.2.1.2.1 a9 7 := (hp.2.2.1.2 a9 ha9).1 7 (by decide) (by decide) (by decide)
                  refine ⟨?_, rfl⟩
                  rw [if_pos c5, nI_clamp (by omega)]
                  unfold detC
                  rw [if_neg e12_0, if_neg e12_1, if_neg e12_2, if_neg e12_3, if_neg e12_4, if_neg e12_5, if_pos e12_6, f9]
                · skip
                  by_cases e12_7 : w = 7
                  · refine kx_tableIn (pc := 12) (tgt := 133) (kx_dd d_Mo_about 7 rfl) (by rw [e12_7] <;> decide) (by rw [e12_7] <;> decide) (by rw [e12_7] <;> rfl) rfl ?_
                    refine kx_aload_n (pc := 133) (kx_dd d_Mo_about 43 rfl) rfl rfl ?_
                    refine kx_getR (pc := 134) (b := 130) fl_Mo_348 (hm.k 0 rfl) rfl (hm.r 45 rfl) (kx_dd d_Mo_about 44 rfl) ?_
                    refine kx_iload_n (pc := 137) (kx_dd d_Mo_about 45 rfl) rfl rfl ?_
                    refine kx_ialdn (pc := 138) a9 (hm.t 46 rfl) rfl (by omega) (by decide) (kx_dd d_Mo_about 46 rfl) ?_
                    refine kx_iret (pc := 139) rfl (kx_dd d_Mo_about 47 rfl) (Nat.le_refl _) (Nat.le_refl _) ?_
                    have f9 : h.1 130 a9 = D.2.2.1.2.1 a9 8 := (hp.2.2.1.2 a9 ha9).1 8 (by decide) (by decide) (by decide)
                    refine ⟨?_, rfl⟩
                    rw [if_pos c5, nI_clamp (by omega)]
                    unfold detC
                    rw [if_neg e12_0, if_neg e12_1, if_neg e12_2, if_neg e12_3, if_neg e12_4, if_neg e12_5, if_neg e12_6, if_pos e12_7, f9]
                  · skip
                    by_cases e12_8 : w = 8
                    · refine kx_tableIn (pc := 12) (tgt := 140) (kx_dd d_Mo_about 7 rfl) (by rw [e12_8] <;> decide) (by rw [e12_8] <;> decide) (by rw [e12_8] <;> rfl) rfl ?_
                      refine kx_aload_n (pc := 140) (kx_dd d_Mo_about 48 rfl) rfl rfl ?_
                      refine kx_getR (pc := 141) (b := 131) fl_Mo_351 (hm.k 0 rfl) rfl (hm.r 46 rfl) (kx_dd d_Mo_about 49 rfl) ?_
                      refine kx_iload_n (pc := 144) (kx_dd d_Mo_about 50 rfl) rfl rfl ?_
                      refine kx_ialdn (pc := 145) a9 (hm.t 47 rfl) rfl (by omega) (by decide) (kx_dd d_Mo_about 51 rfl) ?_
                      refine kx_iret (pc := 146) rfl (kx_dd d_Mo_about 52 rfl) (Nat.le_refl _) (Nat.le_refl _) ?_
                      have f9 : h.1 131 a9 = D.2.2.1.2.1 a9 9 := (hp.2.2.1.2 a9 ha9).1 9 (by decide) (by decide) (by decide)
                      refine ⟨?_, rfl⟩
                      rw [if_pos c5, nI_clamp (by omega)]
                      unfold detC
                      rw [if_neg e12_0, if_neg e12_1, if_neg e12_2, if_neg e12_3, if_neg e12_4, if_neg e12_5, if_neg e12_6, if_neg e12_7, if_pos e12_8, f9]
                    · skip
                      by_cases e12_9 : w = 9
                      · refine kx_tableIn (pc := 12) (tgt := 147) (kx_dd d_Mo_about 7 rfl) (by rw [e12_9] <;> decide) (by rw [e12_9] <;> decide) (by rw [e12_9] <;> rfl) rfl ?_
                        refine kx_aload_n (pc := 147) (kx_dd d_Mo_about 53 rfl) rfl rfl ?_
                        refine kx_getR (pc := 148) (b := 132) fl_Mo_354 (hm.k 0 rfl) rfl (hm.r 47 rfl) (kx_dd d_Mo_about 54 rfl) ?_
                        refine kx_iload_n (pc := 151) (kx_dd d_Mo_about 55 rfl) rfl rfl ?_
                        refine kx_ialdn (pc := 152) a9 (hm.t 48 rfl) rfl (by omega) (by decide) (kx_dd d_Mo_about 56 rfl) ?_
                        refine kx_iret (pc := 153) rfl (kx_dd d_Mo_about 57 rfl) (Nat.le_refl _) (Nat.le_refl _) ?_
                        have f9 : h.1 132 a9 = D.2.2.1.2.1 a9 10 := (hp.2.2.1.2 a9 ha9).1 10 (by decide) (by decide) (by decide)
                        refine ⟨?_, rfl⟩
                        rw [if_pos c5, nI_clamp (by omega)]
                        unfold detC
                        rw [if_neg e12_0, if_neg e12_1, if_neg e12_2, if_neg e12_3, if_neg e12_4, if_neg e12_5, if_neg e12_6, if_neg e12_7, if_neg e12_8, if_pos e12_9, f9]
                      · skip
                        by_cases e12_10 : w = 10
                        · refine kx_tableIn (pc := 12) (tgt := 154) (kx_dd d_Mo_about 7 rfl) (by rw [e12_10] <;> decide) (by rw [e12_10] <;> decide) (by rw [e12_10] <;> rfl) rfl ?_
                          refine kx_aload_n (pc := 154) (kx_dd d_Mo_about 58 rfl) rfl rfl ?_
                          refine kx_getR (pc := 155) (b := 133) fl_Mo_357 (hm.k 0 rfl) rfl (hm.r 48 rfl) (kx_dd d_Mo_about 59 rfl) ?_
                          refine kx_iload_n (pc := 158) (kx_dd d_Mo_about 60 rfl) rfl rfl ?_
                          refine kx_ialdn (pc := 159) a9 (hm.t 49 rfl) rfl (by omega) (by decide) (kx_dd d_Mo_about 61 rfl) ?_
                          refine kx_iret (pc := 160) rfl (kx_dd d_Mo_about 62 rfl) (Nat.le_refl _) (Nat.le_refl _) ?_
                          have f9 : h.1 133 a9 = D.2.2.1.2.1 a9 11 := (hp.2.2.1.2 a9 ha9).1 11 (by decide) (by decide) (by decide)
                          refine ⟨?_, rfl⟩
                          rw [if_pos c5, nI_clamp (by omega)]
                          unfold detC
                          rw [if_neg e12_0, if_neg e12_1, if_neg e12_2, if_neg e12_3, if_neg e12_4, if_neg e12_5, if_neg e12_6, if_neg e12_7, if_neg e12_8, if_neg e12_9, if_pos e12_10, f9]
                        · skip
                          by_cases e12_11 : w = 11
                          · refine kx_tableIn (pc := 12) (tgt := 161) (kx_dd d_Mo_about 7 rfl) (by rw [e12_11] <;> decide) (by rw [e12_11] <;> decide) (by rw [e12_11] <;> rfl) rfl ?_
                            refine kx_aload_n (pc := 161) (kx_dd d_Mo_about 63 rfl) rfl rfl ?_
                            refine kx_getR (pc := 162) (b := 134) fl_Mo_360 (hm.k 0 rfl) rfl (hm.r 49 rfl) (kx_dd d_Mo_about 64 rfl) ?_
                            refine kx_iload_n (pc := 165) (kx_dd d_Mo_about 65 rfl) rfl rfl ?_
                            refine kx_ialdn (pc := 166) a9 (hm.t 50 rfl) rfl (by omega) (by decide) (kx_dd d_Mo_about 66 rfl) ?_
                            refine kx_iret (pc := 167) rfl (kx_dd d_Mo_about 67 rfl) (Nat.le_refl _) (Nat.le_refl _) ?_
                            have f9 : h.1 134 a9 = D.2.2.1.2.1 a9 12 := (hp.2.2.1.2 a9 ha9).1 12 (by decide) (by decide) (by decide)
                            refine ⟨?_, rfl⟩
                            rw [if_pos c5, nI_clamp (by omega)]
                            unfold detC
                            rw [if_neg e12_0, if_neg e12_1, if_neg e12_2, if_neg e12_3, if_neg e12_4, if_neg e12_5, if_neg e12_6, if_neg e12_7, if_neg e12_8, if_neg e12_9, if_neg e12_10, if_pos e12_11, f9]
                          · skip
                            by_cases e12_12 : w = 12
                            · refine kx_tableIn (pc := 12) (tgt := 168) (kx_dd d_Mo_about 7 rfl) (by rw [e12_12] <;> decide) (by rw [e12_12] <;> decide) (by rw [e12_12] <;> rfl) rfl ?_
                              refine kx_aload_n (pc := 168) (kx_dd d_Mo_about 68 rfl) rfl rfl ?_
                              refine kx_getR (pc := 169) (b := 135) fl_Mo_363 (hm.k 0 rfl) rfl (hm.r 50 rfl) (kx_dd d_Mo_about 69 rfl) ?_
                              refine kx_iload_n (pc := 172) (kx_dd d_Mo_about 70 rfl) rfl rfl ?_
                              refine kx_ialdn (pc := 173) a9 (hm.t 51 rfl) rfl (by omega) (by decide) (kx_dd d_Mo_about 71 rfl) ?_
                              refine kx_iret (pc := 174) rfl (kx_dd d_Mo_about 72 rfl) (Nat.le_refl _) (Nat.le_refl _) ?_
                              have f9 : h.1 135 a9 = D.2.2.1.2.1 a9 13 := (hp.2.2.1.2 a9 ha9).1 13 (by decide) (by decide) (by decide)
                              refine ⟨?_, rfl⟩
                              rw [if_pos c5, nI_clamp (by omega)]
                              unfold detC
                              rw [if_neg e12_0, if_neg e12_1, if_neg e12_2, if_neg e12_3, if_neg e12_4, if_neg e12_5, if_neg e12_6, if_neg e12_7, if_neg e12_8, if_neg e12_9, if_neg e12_10, if_neg e12_11, if_pos e12_12, f9]
                            · skip
                              by_cases e12_13 : w = 13
                              · refine kx_tableIn (pc := 12) (tgt := 175) (kx_dd d_Mo_about 7 rfl) (by rw [e12_13] <;> decide) (by rw [e12_13] <;> decide) (by rw [e12_13] <;> rfl) rfl ?_
                                refine kx_aload_n (pc := 175) (kx_dd d_Mo_about 73 rfl) rfl rfl ?_
                                refine kx_getR (pc := 176) (b := 136) fl_Mo_366 (hm.k 0 rfl) rfl (hm.r 51 rfl) (kx_dd d_Mo_about 74 rfl) ?_
                                refine kx_iload_n (pc := 179) (kx_dd d_Mo_about 75 rfl) rfl rfl ?_
                                refine kx_ialdn (pc := 180) a9 (hm.t 52 rfl) rfl (by omega) (by decide) (kx_dd d_Mo_about 76 rfl) ?_
                                refine kx_iret (pc := 181) rfl (kx_dd d_Mo_about 77 rfl) (Nat.le_refl _) (Nat.le_refl _) ?_
                                have f9 : h.1 136 a9 = D.2.2.1.2.1 a9 14 := (hp.2.2.1.2 a9 ha9).1 14 (by decide) (by decide) (by decide)
                                refine ⟨?_, rfl⟩
                                rw [if_pos c5, nI_clamp (by omega)]
                                unfold detC
                                rw [if_neg e12_0, if_neg e12_1, if_neg e12_2, if_neg e12_3, if_neg e12_4, if_neg e12_5, if_neg e12_6, if_neg e12_7, if_neg e12_8, if_neg e12_9, if_neg e12_10, if_neg e12_11, if_neg e12_12, if_pos e12_13, f9]
                              · skip
                                refine kx_tableOut (pc := 12) (tgt := 182) (kx_dd d_Mo_about 7 rfl) (by have y0 := lv_neT (a := 0) e12_0 (by decide); have y1 := lv_neT (a := 1) e12_1 (by decide); have y2 := lv_neT (a := 2) e12_2 (by decide); have y3 := lv_neT (a := 3) e12_3 (by decide); have y4 := lv_neT (a := 4) e12_4 (by decide); have y5 := lv_neT (a := 5) e12_5 (by decide); have y6 := lv_neT (a := 6) e12_6 (by decide); have y7 := lv_neT (a := 7) e12_7 (by decide); have y8 := lv_neT (a := 8) e12_8 (by decide); have y9 := lv_neT (a := 9) e12_9 (by decide); have y10 := lv_neT (a := 10) e12_10 (by decide); have y11 := lv_neT (a := 11) e12_11 (by decide); have y12 := lv_neT (a := 12) e12_12 (by decide); have y13 := lv_neT (a := 13) e12_13 (by decide); omega) rfl ?_
                                refine kx_bipush (pc := 182) (v := -9) (kx_dd d_Mo_about 78 rfl) rfl ?_
                                refine kx_iret (pc := 184) rfl (kx_dd d_Mo_about 79 rfl) (Nat.le_refl _) (Nat.le_refl _) ?_
                                refine ⟨?_, rfl⟩
                                rw [if_pos c5, nI_clamp (by omega)]
                                unfold detC
                                rw [if_neg e12_0, if_neg e12_1, if_neg e12_2, if_neg e12_3, if_neg e12_4, if_neg e12_5, if_neg e12_6, if_neg e12_7, if_neg e12_8, if_neg e12_9, if_neg e12_10, if_neg e12_11, if_neg e12_12, if_neg e12_13]
  · refine kx_bipush (pc := 8) (v := -9) (kx_dd d_Mo_about 4 rfl) rfl ?_
    refine kx_iret (pc := 10) rfl (kx_dd d_Mo_about 5 rfl) (Nat.le_refl _) (Nat.le_refl _) ?_
    exact ⟨by rw [if_neg (bP_0.mp c5)], rfl⟩
