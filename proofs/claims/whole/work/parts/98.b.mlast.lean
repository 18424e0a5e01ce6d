/-! the fund: last: the reference -/
def FlM (n a j : Nat) : Prop := FpM n a j ∨ a = 151 ∨ a = 152
def FlL (a _j : Nat) : Prop := a = 153
def FlI (a _j : Nat) : Prop := a = 151 ∨ a = 152
theorem FSm3.fg {S : FS3} {nw : Nat} {T : Nat → Nat} {P L : Nat → Nat → Prop} {h h' : kx_Mem} (hS : FSm3 S nw T h) (hf : kx_Fg P L h h') (hP : ∀ a j, a < 151 → ¬ P a j) : FSm3 S nw T h' := ⟨hS.1.fx hf.1 (fun a j z => hP a j (by omega)), by rw [hf.1 84 88 (hP _ _ (by decide))]; exact hS.2.1, by rw [← hS.2.2]; funext j; exact hf.1 116 j (hP _ _ (by decide))⟩
/-- what the floors give, and what is left of each -/
def g0F (S : FS3) (W : Nat) : Nat → Nat := if W ≤ S.2.1 then wtF S else sh0 S W
def r0F (S : FS3) (W : Nat) : Nat → Int64 := if W ≤ S.2.1 then (fun _ => 0) else rs0 S W
theorem y_la_p {l : Launch} {g : kx_G} {d : Nat} (h0 : kx_Mem) (hm0 : SM h0) (S : FS3) (nw : Nat) (T : Nat → Nat) (ho : DKok S.1) (M : Nat) (hI : FnI S M) (td : Nat) (htd : td < 2 ^ 31) (hck0 : h0.1 84 36 = nI td) (G : Nat → Nat) (hG : sumN G S.1.2.2.1.1 ≤ S.2.1) (hGs : ∀ k, k < S.1.2.2.1.1 → h0.1 152 k = nI (G k)) (x1 : Int64) : ∀ f k, k + f = S.1.2.2.1.1 → ∀ h w3, kx_Fc (FpM S.1.2.2.1.1) h0 h → FSm3 (lasK td G S k).2 nw T h → kx_X (l, g, m_Mo_last, d + 7, 0, 0, (fun v h' => v = some (.int (nI (lasK td G S S.1.2.2.1.1).1)) ∧ FSm3 (lasK td G S S.1.2.2.1.1).2 nw T h' ∧ kx_Fc (FpM S.1.2.2.1.1) h0 h')) 0 0 299 [some (.ref 84), some (.long x1), none, some (.int w3), some (.int (nI (lasK td G S k).1)), some (.int (nI k))] [] h := by
  intro f
  induction f with
  | zero =>
    intro k hk h w3 hf hS
    have e : k = S.1.2.2.1.1 := by omega
    subst e
    have hm : SM h := hm0.fc hf
    obtain ⟨-, -, ⟨n1, -, -⟩, -⟩ := lasK_ok (td := td) ho hI hG S.1.2.2.1.1 (Nat.le_refl _)
    have e51 : h.1 84 51 = nI S.1.2.2.1.1 := by rw [← n1]; exact hS.1.2.2.1.1
    refine kx_iload (pc := 299) (kx_dd d_Mo_last 174 rfl) rfl ?_
    refine kx_aload_n (pc := 301) (kx_dd d_Mo_last 175 rfl) rfl rfl ?_
    refine kx_getI (pc := 302) fl_Mo_510 (hm.k 0 rfl) rfl (kx_dd d_Mo_last 176 rfl) ?_
    refine kx_icmp_ge (pc := 305) (tgt := 352) (kx_dd d_Mo_last 177 rfl) rfl (fun c305 => ?_) (fun c305 => ?_)
    · refine kx_iload (pc := 352) (kx_dd d_Mo_last 200 rfl) rfl ?_
      refine kx_iret (pc := 354) rfl (kx_dd d_Mo_last 201 rfl) (Nat.le_refl _) (Nat.le_refl _) ?_
      exact ⟨rfl, hS, hf⟩
    · exact absurd (by rw [e51]; exact Int32.le_refl _) c305
  | succ f ih =>
    intro k hk9 h w3 hf hS
    have hm : SM h := hm0.fc hf
    obtain ⟨ho1, hI1, ⟨n1, -, -⟩, f1, f11, fK⟩ := lasK_ok (td := td) ho hI hG k (by omega)
    obtain ⟨S1, hS1⟩ : ∃ S1, (lasK td G S k).2 = S1 := ⟨_, rfl⟩
    rw [hS1] at ho1 hI1 n1 f1 f11 fK hS
    have hk : k < S1.1.2.2.1.1 := by omega
    have o1 := ho.2.2.1.1
    have e51 : h.1 84 51 = nI S.1.2.2.1.1 := by rw [← n1]; exact hS.1.2.2.1.1
    have hM9 := hI1.1
    have hKM := hI1.2.1
    have hGk := sumN_at (f := G) (show k < S.1.2.2.1.1 by omega)
    have eg : h.1 152 k = nI (G k) := by rw [hf.2 152 k (by unfold FpM; omega)]; exact hGs k (by omega)
    have hck : h.1 84 36 = nI td := by rw [hf.2 84 36 (by unfold FpM; omega)]; exact hck0
    refine kx_iload (pc := 299) (kx_dd d_Mo_last 174 rfl) rfl ?_
    refine kx_aload_n (pc := 301) (kx_dd d_Mo_last 175 rfl) rfl rfl ?_
    refine kx_getI (pc := 302) fl_Mo_510 (hm.k 0 rfl) rfl (kx_dd d_Mo_last 176 rfl) ?_
    refine kx_icmp_ge (pc := 305) (tgt := 352) (kx_dd d_Mo_last 177 rfl) rfl (fun c305 => ?_) (fun c305 => ?_)
    · exact absurd c305 (by rw [e51]; exact nI_ge (by omega) (by omega))
    · refine kx_aload_n (pc := 308) (kx_dd d_Mo_last 178 rfl) rfl rfl ?_
      refine kx_getR (pc := 309) (b := 152) fl_Mo_415 (hm.k 0 rfl) rfl (hm.r 67 rfl) (kx_dd d_Mo_last 179 rfl) ?_
      refine kx_iload (pc := 312) (kx_dd d_Mo_last 180 rfl) rfl ?_
      refine kx_ialdn (pc := 314) k (hm.t 68 rfl) rfl (by omega) (by decide) (kx_dd d_Mo_last 181 rfl) ?_
      refine kx_if_ne (pc := 315) (tgt := 321) (kx_dd d_Mo_last 182 rfl) rfl (fun c315 => ?_) (fun c315 => ?_)
      · rw [eg, nI_z (by omega)] at c315
        refine kx_iload (pc := 321) (kx_dd d_Mo_last 184 rfl) rfl ?_
        refine kx_aload_n (pc := 323) (kx_dd d_Mo_last 185 rfl) rfl rfl ?_
        refine kx_getR (pc := 324) (b := 152) fl_Mo_415 (hm.k 0 rfl) rfl (hm.r 67 rfl) (kx_dd d_Mo_last 186 rfl) ?_
        refine kx_iload (pc := 327) (kx_dd d_Mo_last 187 rfl) rfl ?_
        refine kx_ialdn (pc := 329) k (hm.t 68 rfl) rfl (by omega) (by decide) (kx_dd d_Mo_last 188 rfl) ?_
        refine kx_iadd (pc := 330) (kx_dd d_Mo_last 189 rfl) ?_
        rw [eg, nI_add]
        refine kx_istore_e (pc := 331) (lv' := [_, _, _, _, _, _]) (kx_dd d_Mo_last 190 rfl) (Nat.le_of_ble_eq_true rfl) rfl ?_
        refine kx_aload_n (pc := 333) (kx_dd d_Mo_last 191 rfl) rfl rfl ?_
        refine kx_iload (pc := 334) (kx_dd d_Mo_last 192 rfl) rfl ?_
        refine kx_aload_n (pc := 336) (kx_dd d_Mo_last 193 rfl) rfl rfl ?_
        refine kx_getR (pc := 337) (b := 152) fl_Mo_415 (hm.k 0 rfl) rfl (hm.r 67 rfl) (kx_dd d_Mo_last 194 rfl) ?_
        refine kx_iload (pc := 340) (kx_dd d_Mo_last 195 rfl) rfl ?_
        refine kx_ialdn (pc := 342) k (hm.t 68 rfl) rfl (by omega) (by decide) (kx_dd d_Mo_last 196 rfl) ?_
        rw [eg]
        refine kx_invV (pc := 343) (a := 84) (as := [_, _]) (kx_dd d_Mo_last 197 rfl) ⟨lk_Mo_616, wi_Mo_pay, we_Mo_pay⟩ w_Mo_pay (hm.k 0 rfl) rfl rfl rfl rfl (Nat.le_of_ble_eq_true rfl) (y_pay (d := d) hm S1 nw T ho1 hS td htd hck k hk (G k) (by omega) (by omega)) (Nat.le_refl _) ⟨Nat.le_refl _, Nat.le_refl _⟩ (fun v h' hq => ?_)
        revert h'
        intro h1 hq
        obtain ⟨rfl, hS9, hf9⟩ := hq
        rw [n1] at hf9
        refine kx_iinc_e (pc := 346) (v := nI (k + 1)) (lv' := [_, _, _, _, _, _]) (kx_dd d_Mo_last 198 rfl) rfl (Nat.le_of_ble_eq_true rfl) (nI_1 k) rfl ?_
        refine kx_goto (pc := 349) (tgt := 299) (kx_dd d_Mo_last 199 rfl) rfl ?_
        have e : lasK td G S (k + 1) = ((lasK td G S k).1 + G k, payM td S1 k (G k)) := by rw [← hS1]; rfl
        rw [show payM td S1 k (G k) = payF td S1 k (G k) from if_pos (by omega)] at e
        have ih1 := ih (k + 1) (by omega)
        rw [e] at ih1
        exact ih1 h1 _ (hf.tr hf9) hS9
      · refine kx_goto (pc := 318) (tgt := 346) (kx_dd d_Mo_last 183 rfl) rfl ?_
        refine kx_iinc_e (pc := 346) (v := nI (k + 1)) (lv' := [_, _, _, _, _, _]) (kx_dd d_Mo_last 198 rfl) rfl (Nat.le_of_ble_eq_true rfl) (nI_1 k) rfl ?_
        refine kx_goto (pc := 349) (tgt := 299) (kx_dd d_Mo_last 199 rfl) rfl ?_
        rw [eg, nI_z (by omega)] at c315
        have e : lasK td G S (k + 1) = ((lasK td G S k).1 + G k, payM td S1 k (G k)) := by rw [← hS1]; rfl
        rw [c315, show payM td S1 k 0 = S1 from if_neg (by decide), Nat.add_zero] at e
        have ih1 := ih (k + 1) (by omega)
        rw [e] at ih1
        exact ih1 h _ hf hS
theorem y_gr_loop {l : Launch} {g : kx_G} {d : Nat} {h : kx_Mem} (hm : SM h) (n : Nat) (hn : n ≤ 60) (h0 : 0 < n) (e51 : h.1 84 51 = nI n) (Q : Option Value → kx_Mem → Prop) (x1 : Int64) (x3 : Int32) (kont : kx_X (l, g, m_Mo_last, d, 0, 0, Q) 0 0 266 [some (.ref 84), some (.long x1), none, some (.int x3), some (.int (nI (amx (fun i => h.2.1 153 i) n))), some (.int (nI n))] [] h) : ∀ f i, i + f = n → kx_X (l, g, m_Mo_last, d, 0, 0, Q) 0 0 223 [some (.ref 84), some (.long x1), none, some (.int x3), some (.int (if i = 0 then -1 else nI (amx (fun i => h.2.1 153 i) i))), some (.int (nI i))] [] h := by
  intro f
  induction f with
  | zero =>
    intro i hi
    have e : i = n := by omega
    subst e
    rw [if_neg (by omega)]
    refine kx_iload (pc := 223) (kx_dd d_Mo_last 134 rfl) rfl ?_
    refine kx_aload_n (pc := 225) (kx_dd d_Mo_last 135 rfl) rfl rfl ?_
    refine kx_getI (pc := 226) fl_Mo_510 (hm.k 0 rfl) rfl (kx_dd d_Mo_last 136 rfl) ?_
    refine kx_icmp_ge (pc := 229) (tgt := 266) (kx_dd d_Mo_last 137 rfl) rfl (fun c229 => ?_) (fun c229 => ?_)
    · exact kont
    · exact absurd (by rw [e51]; exact Int32.le_refl _) c229
  | succ f ih =>
    intro i hi
    have ih1 := ih (i + 1) (by omega)
    rw [if_neg (by omega)] at ih1
    by_cases ez : i = 0
    · subst ez
      rw [if_pos rfl]
      refine kx_iload (pc := 223) (kx_dd d_Mo_last 134 rfl) rfl ?_
      refine kx_aload_n (pc := 225) (kx_dd d_Mo_last 135 rfl) rfl rfl ?_
      refine kx_getI (pc := 226) fl_Mo_510 (hm.k 0 rfl) rfl (kx_dd d_Mo_last 136 rfl) ?_
      refine kx_icmp_ge (pc := 229) (tgt := 266) (kx_dd d_Mo_last 137 rfl) rfl (fun c229 => ?_) (fun c229 => ?_)
      · exact absurd c229 (by rw [e51]; exact nI_ge (by omega) (by omega))
      · refine kx_iload (pc := 232) (kx_dd d_Mo_last 138 rfl) rfl ?_
        refine kx_iconst (pc := 234) (v := -1) (kx_dd d_Mo_last 139 rfl) rfl ?_
        refine kx_icmp_eq (pc := 235) (tgt := 256) (kx_dd d_Mo_last 140 rfl) rfl (fun c235 => ?_) (fun c235 => ?_)
        · refine kx_iload (pc := 256) (kx_dd d_Mo_last 151 rfl) rfl ?_
          refine kx_istore_e (pc := 258) (lv' := [_, _, _, _, _, _]) (kx_dd d_Mo_last 152 rfl) (Nat.le_of_ble_eq_true rfl) rfl ?_
          refine kx_iinc_e (pc := 260) (v := nI (0 + 1)) (lv' := [_, _, _, _, _, _]) (kx_dd d_Mo_last 153 rfl) rfl (Nat.le_of_ble_eq_true rfl) (nI_1 0) rfl ?_
          refine kx_goto (pc := 263) (tgt := 223) (kx_dd d_Mo_last 154 rfl) rfl ?_
          exact ih1
        · exact absurd rfl c235
    · rw [if_neg ez]
      have al := amx_lt (rs := (fun i => h.2.1 153 i)) i (by omega)
      refine kx_iload (pc := 223) (kx_dd d_Mo_last 134 rfl) rfl ?_
      refine kx_aload_n (pc := 225) (kx_dd d_Mo_last 135 rfl) rfl rfl ?_
      refine kx_getI (pc := 226) fl_Mo_510 (hm.k 0 rfl) rfl (kx_dd d_Mo_last 136 rfl) ?_
      refine kx_icmp_ge (pc := 229) (tgt := 266) (kx_dd d_Mo_last 137 rfl) rfl (fun c229 => ?_) (fun c229 => ?_)
      · exact absurd c229 (by rw [e51]; exact nI_ge (by omega) (by omega))
      · refine kx_iload (pc := 232) (kx_dd d_Mo_last 138 rfl) rfl ?_
        refine kx_iconst (pc := 234) (v := -1) (kx_dd d_Mo_last 139 rfl) rfl ?_
        refine kx_icmp_eq (pc := 235) (tgt := 256) (kx_dd d_Mo_last 140 rfl) rfl (fun c235 => ?_) (fun c235 => ?_)
        · exact absurd c235 (nI_m2 (by omega))
        · refine kx_aload_n (pc := 238) (kx_dd d_Mo_last 141 rfl) rfl rfl ?_
          refine kx_getR (pc := 239) (b := 153) fl_Mo_418 (hm.k 0 rfl) rfl (hm.r 68 rfl) (kx_dd d_Mo_last 142 rfl) ?_
          refine kx_iload (pc := 242) (kx_dd d_Mo_last 143 rfl) rfl ?_
          refine kx_laldn (pc := 244) i (hm.t 69 rfl) rfl (by omega) (by decide) (kx_dd d_Mo_last 144 rfl) ?_
          refine kx_aload_n (pc := 245) (kx_dd d_Mo_last 145 rfl) rfl rfl ?_
          refine kx_getR (pc := 246) (b := 153) fl_Mo_418 (hm.k 0 rfl) rfl (hm.r 68 rfl) (kx_dd d_Mo_last 146 rfl) ?_
          refine kx_iload (pc := 249) (kx_dd d_Mo_last 147 rfl) rfl ?_
          refine kx_laldn (pc := 251) (amx (fun i => h.2.1 153 i) i) (hm.t 69 rfl) rfl (by omega) (by decide) (kx_dd d_Mo_last 148 rfl) ?_
          refine kx_lcmp (pc := 252) (kx_dd d_Mo_last 149 rfl) ?_
          refine kx_if_le (pc := 253) (tgt := 260) (kx_dd d_Mo_last 150 rfl) rfl (fun c253 => ?_) (fun c253 => ?_)
          · refine kx_iinc_e (pc := 260) (v := nI (i + 1)) (lv' := [_, _, _, _, _, _]) (kx_dd d_Mo_last 153 rfl) rfl (Nat.le_of_ble_eq_true rfl) (nI_1 i) rfl ?_
            refine kx_goto (pc := 263) (tgt := 223) (kx_dd d_Mo_last 154 rfl) rfl ?_
            rw [lg_cmp_le] at c253
            rw [amx_n (rs := (fun i => h.2.1 153 i)) (by omega) (Int64.not_lt.mpr c253)] at ih1
            exact ih1
          · refine kx_iload (pc := 256) (kx_dd d_Mo_last 151 rfl) rfl ?_
            refine kx_istore_e (pc := 258) (lv' := [_, _, _, _, _, _]) (kx_dd d_Mo_last 152 rfl) (Nat.le_of_ble_eq_true rfl) rfl ?_
            refine kx_iinc_e (pc := 260) (v := nI (i + 1)) (lv' := [_, _, _, _, _, _]) (kx_dd d_Mo_last 153 rfl) rfl (Nat.le_of_ble_eq_true rfl) (nI_1 i) rfl ?_
            refine kx_goto (pc := 263) (tgt := 223) (kx_dd d_Mo_last 154 rfl) rfl ?_
            rw [lg_cmp_le] at c253
            rw [amx_y (rs := (fun i => h.2.1 153 i)) (by omega) (Int64.not_le.mp c253)] at ih1
            exact ih1
theorem y_rd_loop {l : Launch} {g : kx_G} {d : Nat} (h0 : kx_Mem) (hm0 : SM h0) (S : FS3) (nw : Nat) (T : Nat → Nat) (ho : DKok S.1) (hS0 : FSm3 S nw T h0) (M : Nat) (hI : FnI S M) (hlt : S.2.1 < (sumN (wtF S) S.1.2.2.1.1)) (Q : Option Value → kx_Mem → Prop) (kont : ∀ h w3 w4 w5, kx_Fg FlI FlL h0 h → (∀ i, i < S.1.2.2.1.1 → h.1 152 i = nI (getF S (sumN (wtF S) S.1.2.2.1.1) i)) → kx_X (l, g, m_Mo_last, d, 0, 0, Q) 0 0 293 [some (.ref 84), some (.long (lN (sumN (wtF S) S.1.2.2.1.1))), none, some (.int w3), w4, w5] [] h) : ∀ f t, t + f = (S.2.1 - sumN (sh0 S (sumN (wtF S) S.1.2.2.1.1)) S.1.2.2.1.1) → ∀ h w4 w5, kx_Fg FlI FlL h0 h → (∀ i, i < S.1.2.2.1.1 → h.1 152 i = nI ((rndF S.1.2.2.1.1 (sh0 S (sumN (wtF S) S.1.2.2.1.1)) (rs0 S (sumN (wtF S) S.1.2.2.1.1)) t).1 i) ∧ h.2.1 153 i = (rndF S.1.2.2.1.1 (sh0 S (sumN (wtF S) S.1.2.2.1.1)) (rs0 S (sumN (wtF S) S.1.2.2.1.1)) t).2 i) → kx_X (l, g, m_Mo_last, d, 0, 0, Q) 0 0 203 [some (.ref 84), some (.long (lN (sumN (wtF S) S.1.2.2.1.1))), none, some (.int (nI ((S.2.1 - sumN (sh0 S (sumN (wtF S) S.1.2.2.1.1)) S.1.2.2.1.1) - t))), w4, w5] [] h := by
  intro f
  induction f with
  | zero =>
    intro t ht h w4 w5 hf hG
    have hm : SM h := hm0.fg hf
    have hS : FSm3 S nw T h := hS0.fg hf (fun a j z => by unfold FlI; omega)
    have o1 := ho.2.2.1.1
    have e51 : h.1 84 51 = nI S.1.2.2.1.1 := hS.1.2.2.1.1
    have hov := ov_lt (S := S) (n := S.1.2.2.1.1) rfl hlt
    have hM := hI.1
    have hKM := hI.2.1
    have hWl := wtS_le ho S.1.2.2.1.1 (Nat.le_refl _)
    have et : t = (S.2.1 - sumN (sh0 S (sumN (wtF S) S.1.2.2.1.1)) S.1.2.2.1.1) := by omega
    have hg : getF S (sumN (wtF S) S.1.2.2.1.1) = (rndF S.1.2.2.1.1 (sh0 S (sumN (wtF S) S.1.2.2.1.1)) (rs0 S (sumN (wtF S) S.1.2.2.1.1)) t).1 := by unfold getF; rw [if_neg (by omega), ← et]
    have hz : (S.2.1 - sumN (sh0 S (sumN (wtF S) S.1.2.2.1.1)) S.1.2.2.1.1) - t = 0 := by omega
    rw [hz]
    refine kx_lload_n (pc := 203) (kx_dd d_Mo_last 122 rfl) rfl rfl ?_
    refine kx_aload_n (pc := 204) (kx_dd d_Mo_last 123 rfl) rfl rfl ?_
    refine kx_getI (pc := 205) fl_Mo_606 (hm.k 0 rfl) rfl (kx_dd d_Mo_last 124 rfl) ?_
    refine kx_i2l (pc := 208) (kx_dd d_Mo_last 125 rfl) ?_
    refine kx_lcmp (pc := 209) (kx_dd d_Mo_last 126 rfl) ?_
    refine kx_if_le (pc := 210) (tgt := 293) (kx_dd d_Mo_last 127 rfl) rfl (fun c210 => ?_) (fun c210 => ?_)
    · exact absurd c210 (by rw [hS.2.1, lg_cmp_le, nI_l (by omega), pk_lLE (by omega) (by omega)]; omega)
    · refine kx_iload_n (pc := 213) (kx_dd d_Mo_last 128 rfl) rfl rfl ?_
      refine kx_if_le (pc := 214) (tgt := 293) (kx_dd d_Mo_last 129 rfl) rfl (fun c214 => ?_) (fun c214 => ?_)
      · exact kont h _ _ _ hf (fun i hi => by rw [hg]; exact (hG i hi).1)
      · exact absurd (by decide) c214
  | succ f ih =>
    intro t ht h w4 w5 hf hG
    have hm : SM h := hm0.fg hf
    have hS : FSm3 S nw T h := hS0.fg hf (fun a j z => by unfold FlI; omega)
    have o1 := ho.2.2.1.1
    have e51 : h.1 84 51 = nI S.1.2.2.1.1 := hS.1.2.2.1.1
    have hov := ov_lt (S := S) (n := S.1.2.2.1.1) rfl hlt
    have hM := hI.1
    have hKM := hI.2.1
    have hWl := wtS_le ho S.1.2.2.1.1 (Nat.le_refl _)
    have eam : amx (fun i => h.2.1 153 i) S.1.2.2.1.1 = amx (rndF S.1.2.2.1.1 (sh0 S (sumN (wtF S) S.1.2.2.1.1)) (rs0 S (sumN (wtF S) S.1.2.2.1.1)) t).2 S.1.2.2.1.1 := amx_c (fun i hi => (hG i hi).2)
    obtain ⟨b9, hb9⟩ : ∃ b9, amx (rndF S.1.2.2.1.1 (sh0 S (sumN (wtF S) S.1.2.2.1.1)) (rs0 S (sumN (wtF S) S.1.2.2.1.1)) t).2 S.1.2.2.1.1 = b9 := ⟨_, rfl⟩
    have hbl : b9 < S.1.2.2.1.1 := by rw [← hb9]; exact amx_lt _ hov.2.2
    refine kx_lload_n (pc := 203) (kx_dd d_Mo_last 122 rfl) rfl rfl ?_
    refine kx_aload_n (pc := 204) (kx_dd d_Mo_last 123 rfl) rfl rfl ?_
    refine kx_getI (pc := 205) fl_Mo_606 (hm.k 0 rfl) rfl (kx_dd d_Mo_last 124 rfl) ?_
    refine kx_i2l (pc := 208) (kx_dd d_Mo_last 125 rfl) ?_
    refine kx_lcmp (pc := 209) (kx_dd d_Mo_last 126 rfl) ?_
    refine kx_if_le (pc := 210) (tgt := 293) (kx_dd d_Mo_last 127 rfl) rfl (fun c210 => ?_) (fun c210 => ?_)
    · exact absurd c210 (by rw [hS.2.1, lg_cmp_le, nI_l (by omega), pk_lLE (by omega) (by omega)]; omega)
    · refine kx_iload_n (pc := 213) (kx_dd d_Mo_last 128 rfl) rfl rfl ?_
      refine kx_if_le (pc := 214) (tgt := 293) (kx_dd d_Mo_last 129 rfl) rfl (fun c214 => ?_) (fun c214 => ?_)
      · exact absurd c214 (by rw [nI_le0 (by omega)]; omega)
      · refine kx_iconst (pc := 217) (v := -1) (kx_dd d_Mo_last 130 rfl) rfl ?_
        refine kx_istore_e (pc := 218) (lv' := [_, _, _, _, _, _]) (kx_dd d_Mo_last 131 rfl) (Nat.le_of_ble_eq_true rfl) rfl ?_
        refine kx_iconst (pc := 220) (v := 0) (kx_dd d_Mo_last 132 rfl) rfl ?_
        refine kx_istore_e (pc := 221) (lv' := [_, _, _, _, _, _]) (kx_dd d_Mo_last 133 rfl) (Nat.le_of_ble_eq_true rfl) rfl ?_
        refine y_gr_loop hm S.1.2.2.1.1 (by omega) hov.2.2 e51 Q _ _ ?_ S.1.2.2.1.1 0 (by omega)
        rw [eam, hb9]
        refine kx_aload_n (pc := 266) (kx_dd d_Mo_last 155 rfl) rfl rfl ?_
        refine kx_getR (pc := 267) (b := 152) fl_Mo_415 (hm.k 0 rfl) rfl (hm.r 67 rfl) (kx_dd d_Mo_last 156 rfl) ?_
        refine kx_iload (pc := 270) (kx_dd d_Mo_last 157 rfl) rfl ?_
        refine kx_dup2 (pc := 272) (kx_dd d_Mo_last 158 rfl) rfl rfl ?_
        refine kx_ialdn (pc := 273) b9 (hm.t 68 rfl) rfl (by omega) (by decide) (kx_dd d_Mo_last 159 rfl) ?_
        rw [(hG b9 hbl).1]
        refine kx_iconst (pc := 274) (v := 1) (kx_dd d_Mo_last 160 rfl) rfl ?_
        refine kx_iadd (pc := 275) (kx_dd d_Mo_last 161 rfl) ?_
        rw [nI_1]
        refine kx_iastn (pc := 276) b9 (hm.t 68 rfl) (by decide) rfl (by omega) (by decide) (kx_dd d_Mo_last 162 rfl) ?_
        refine kx_aload_n (pc := 277) (kx_dd d_Mo_last 163 rfl) rfl rfl ?_
        refine kx_getR (pc := 278) (b := 153) fl_Mo_418 (hm.k 0 rfl) rfl (hm.r 68 rfl) (kx_dd d_Mo_last 164 rfl) ?_
        refine kx_iload (pc := 281) (kx_dd d_Mo_last 165 rfl) rfl ?_
        refine kx_ldc2 (pc := 283) kl_Mo_619 (kx_dd d_Mo_last 166 rfl) ?_
        refine kx_lastn (pc := 286) b9 (hm.t 69 rfl) (by decide) rfl (by omega) (by decide) (kx_dd d_Mo_last 167 rfl) ?_
        refine kx_iinc_e (pc := 287) (v := nI ((S.2.1 - sumN (sh0 S (sumN (wtF S) S.1.2.2.1.1)) S.1.2.2.1.1) - t - 1)) (lv' := [_, _, _, _, _, _]) (kx_dd d_Mo_last 168 rfl) rfl (Nat.le_of_ble_eq_true rfl) (nI_dn9 (by omega)) rfl ?_
        refine kx_goto (pc := 290) (tgt := 203) (kx_dd d_Mo_last 169 rfl) rfl ?_
        have e1 : rndF S.1.2.2.1.1 (sh0 S (sumN (wtF S) S.1.2.2.1.1)) (rs0 S (sumN (wtF S) S.1.2.2.1.1)) (t + 1) = (upF (rndF S.1.2.2.1.1 (sh0 S (sumN (wtF S) S.1.2.2.1.1)) (rs0 S (sumN (wtF S) S.1.2.2.1.1)) t).1 b9 ((rndF S.1.2.2.1.1 (sh0 S (sumN (wtF S) S.1.2.2.1.1)) (rs0 S (sumN (wtF S) S.1.2.2.1.1)) t).1 b9 + 1), upF (rndF S.1.2.2.1.1 (sh0 S (sumN (wtF S) S.1.2.2.1.1)) (rs0 S (sumN (wtF S) S.1.2.2.1.1)) t).2 b9 (-1)) := by rw [← hb9]; rfl
        have ih1 := ih (t + 1) (by omega)
        rw [e1, show (S.2.1 - sumN (sh0 S (sumN (wtF S) S.1.2.2.1.1)) S.1.2.2.1.1) - (t + 1) = (S.2.1 - sumN (sh0 S (sumN (wtF S) S.1.2.2.1.1)) S.1.2.2.1.1) - t - 1 by omega] at ih1
        refine ih1 _ _ _ ((hf.tr (kx_Fg.setI (Or.inr rfl))).tr (kx_Fg.setL rfl)) (fun i hi => ⟨?_, ?_⟩)
        · show (kx_setI h 152 b9 _).1 152 i = nI (upF _ _ _ i)
          unfold upF
          by_cases e : i = b9
          · rw [if_pos e, e, setI_at]
          · rw [if_neg e, setI_ne (Or.inr e)]; exact (hG i hi).1
        · show _ = upF _ _ _ i
          unfold upF
          by_cases e : i = b9
          · rw [if_pos e, e, setL_at]
          · rw [if_neg e, setL_ne (Or.inr e)]; exact (hG i hi).2
theorem y_g_loop {l : Launch} {g : kx_G} {d : Nat} (h0 : kx_Mem) (hm0 : SM h0) (S : FS3) (nw : Nat) (T : Nat → Nat) (ho : DKok S.1) (hS0 : FSm3 S nw T h0) (M : Nat) (hI : FnI S M) (hw0 : ∀ i, i < S.1.2.2.1.1 → h0.1 151 i = nI (wtF S i)) (Q : Option Value → kx_Mem → Prop) (kont : ∀ h w4 w5, kx_Fg FlI FlL h0 h → (∀ i, i < S.1.2.2.1.1 → h.1 152 i = nI (g0F S (sumN (wtF S) S.1.2.2.1.1) i) ∧ h.2.1 153 i = r0F S (sumN (wtF S) S.1.2.2.1.1) i) → kx_X (l, g, m_Mo_last, d, 0, 0, Q) 0 0 203 [some (.ref 84), some (.long (lN (sumN (wtF S) S.1.2.2.1.1))), none, some (.int (nI (S.2.1 - sumN (g0F S (sumN (wtF S) S.1.2.2.1.1)) S.1.2.2.1.1))), w4, w5] [] h) (hgs : sumN (g0F S (sumN (wtF S) S.1.2.2.1.1)) S.1.2.2.1.1 ≤ S.2.1) : ∀ f k, k + f = S.1.2.2.1.1 → ∀ h w5, kx_Fg (fun a _ => a = 152) FlL h0 h → (∀ i, i < k → h.1 152 i = nI (g0F S (sumN (wtF S) S.1.2.2.1.1) i) ∧ h.2.1 153 i = r0F S (sumN (wtF S) S.1.2.2.1.1) i) → kx_X (l, g, m_Mo_last, d, 0, 0, Q) 0 0 97 [some (.ref 84), some (.long (lN (sumN (wtF S) S.1.2.2.1.1))), none, some (.int (nI (S.2.1 - sumN (g0F S (sumN (wtF S) S.1.2.2.1.1)) k))), some (.int (nI k)), w5] [] h := by
  intro f
  induction f with
  | zero =>
    intro k hk h w5 hf hG
    have e : k = S.1.2.2.1.1 := by omega
    subst e
    have hm : SM h := hm0.fg hf
    have hS : FSm3 S nw T h := hS0.fg hf (fun a j z => by omega)
    have o1 := ho.2.2.1.1
    have e51 : h.1 84 51 = nI S.1.2.2.1.1 := hS.1.2.2.1.1
    have hM := hI.1
    have hKM := hI.2.1
    have hWl := wtS_le ho S.1.2.2.1.1 (Nat.le_refl _)
    refine kx_iload (pc := 97) (kx_dd d_Mo_last 59 rfl) rfl ?_
    refine kx_aload_n (pc := 99) (kx_dd d_Mo_last 60 rfl) rfl rfl ?_
    refine kx_getI (pc := 100) fl_Mo_510 (hm.k 0 rfl) rfl (kx_dd d_Mo_last 61 rfl) ?_
    refine kx_icmp_ge (pc := 103) (tgt := 203) (kx_dd d_Mo_last 62 rfl) rfl (fun c103 => ?_) (fun c103 => ?_)
    · exact kont h _ _ (hf.mono (fun a j z => Or.inr z) (fun _ _ z => z)) hG
    · exact absurd (by rw [e51]; exact Int32.le_refl _) c103
  | succ f ih =>
    intro k hk9 h w5 hf hG
    have hm : SM h := hm0.fg hf
    have hS : FSm3 S nw T h := hS0.fg hf (fun a j z => by omega)
    have o1 := ho.2.2.1.1
    have e51 : h.1 84 51 = nI S.1.2.2.1.1 := hS.1.2.2.1.1
    have hM := hI.1
    have hKM := hI.2.1
    have hWl := wtS_le ho S.1.2.2.1.1 (Nat.le_refl _)
    have hk : k < S.1.2.2.1.1 := by omega
    have ew : h.1 151 k = nI (wtF S k) := by rw [hf.1 151 k (by omega)]; exact hw0 k hk
    have wl := wtF_le ho hk
    have hml : wtF S k * S.2.1 ≤ 6600000 * 999999999 := Nat.mul_le_mul wl (by omega)
    have hsk : sumN (g0F S (sumN (wtF S) S.1.2.2.1.1)) k + g0F S (sumN (wtF S) S.1.2.2.1.1) k ≤ sumN (g0F S (sumN (wtF S) S.1.2.2.1.1)) S.1.2.2.1.1 := sumN_at hk
    refine kx_iload (pc := 97) (kx_dd d_Mo_last 59 rfl) rfl ?_
    refine kx_aload_n (pc := 99) (kx_dd d_Mo_last 60 rfl) rfl rfl ?_
    refine kx_getI (pc := 100) fl_Mo_510 (hm.k 0 rfl) rfl (kx_dd d_Mo_last 61 rfl) ?_
    refine kx_icmp_ge (pc := 103) (tgt := 203) (kx_dd d_Mo_last 62 rfl) rfl (fun c103 => ?_) (fun c103 => ?_)
    · exact absurd c103 (by rw [e51]; exact nI_ge (by omega) (by omega))
    · refine kx_aload_n (pc := 106) (kx_dd d_Mo_last 63 rfl) rfl rfl ?_
      refine kx_getR (pc := 107) (b := 152) fl_Mo_415 (hm.k 0 rfl) rfl (hm.r 67 rfl) (kx_dd d_Mo_last 64 rfl) ?_
      refine kx_iload (pc := 110) (kx_dd d_Mo_last 65 rfl) rfl ?_
      refine kx_lload_n (pc := 112) (kx_dd d_Mo_last 66 rfl) rfl rfl ?_
      refine kx_aload_n (pc := 113) (kx_dd d_Mo_last 67 rfl) rfl rfl ?_
      refine kx_getI (pc := 114) fl_Mo_606 (hm.k 0 rfl) rfl (kx_dd d_Mo_last 68 rfl) ?_
      refine kx_i2l (pc := 117) (kx_dd d_Mo_last 69 rfl) ?_
      refine kx_lcmp (pc := 118) (kx_dd d_Mo_last 70 rfl) ?_
      refine kx_if_gt (pc := 119) (tgt := 132) (kx_dd d_Mo_last 71 rfl) rfl (fun c119 => ?_) (fun c119 => ?_)
      · rw [hS.2.1, lg_gt, nI_l (by omega), pk_lLT (by omega) (by omega)] at c119
        have eg : g0F S (sumN (wtF S) S.1.2.2.1.1) = sh0 S (sumN (wtF S) S.1.2.2.1.1) := if_neg (by omega)
        have er : r0F S (sumN (wtF S) S.1.2.2.1.1) = rs0 S (sumN (wtF S) S.1.2.2.1.1) := if_neg (by omega)
        refine kx_aload_n (pc := 132) (kx_dd d_Mo_last 77 rfl) rfl rfl ?_
        refine kx_getR (pc := 133) (b := 151) fl_Mo_412 (hm.k 0 rfl) rfl (hm.r 66 rfl) (kx_dd d_Mo_last 78 rfl) ?_
        refine kx_iload (pc := 136) (kx_dd d_Mo_last 79 rfl) rfl ?_
        refine kx_ialdn (pc := 138) k (hm.t 67 rfl) rfl (by omega) (by decide) (kx_dd d_Mo_last 80 rfl) ?_
        refine kx_i2l (pc := 139) (kx_dd d_Mo_last 81 rfl) ?_
        refine kx_aload_n (pc := 140) (kx_dd d_Mo_last 82 rfl) rfl rfl ?_
        refine kx_getI (pc := 141) fl_Mo_606 (hm.k 0 rfl) rfl (kx_dd d_Mo_last 83 rfl) ?_
        refine kx_i2l (pc := 144) (kx_dd d_Mo_last 84 rfl) ?_
        refine kx_lmul (pc := 145) (kx_dd d_Mo_last 85 rfl) ?_
        refine kx_lload_n (pc := 146) (kx_dd d_Mo_last 86 rfl) rfl rfl ?_
        refine kx_ldiv (pc := 147) (kx_dd d_Mo_last 87 rfl) (by intro z; have := (pk_lEQ (b := 0) (by omega) (by decide)).mp z; omega) ?_
        rw [ew, hS.2.1, nI_l (by omega), nI_l (by omega), lN_mul, pk_lDiv (by omega) (by omega) (by omega)]
        refine kx_l2i (pc := 148) (kx_dd d_Mo_last 88 rfl) ?_
        rw [lN_i]
        rw [show wtF S k * S.2.1 / (sumN (wtF S) S.1.2.2.1.1) = (g0F S (sumN (wtF S) S.1.2.2.1.1) k) from by rw [eg]; unfold sh0; rw [Nat.mul_comm]]
        refine kx_iastn (pc := 149) k (hm.t 68 rfl) (by decide) rfl (by omega) (by decide) (kx_dd d_Mo_last 89 rfl) ?_
        refine kx_aload_n (pc := 150) (kx_dd d_Mo_last 90 rfl) rfl rfl ?_
        refine kx_getR (pc := 151) (b := 153) fl_Mo_418 (hm.k 0 rfl) rfl (hm.r 68 rfl) (kx_dd d_Mo_last 91 rfl) ?_
        refine kx_iload (pc := 154) (kx_dd d_Mo_last 92 rfl) rfl ?_
        refine kx_lload_n (pc := 156) (kx_dd d_Mo_last 93 rfl) rfl rfl ?_
        refine kx_aload_n (pc := 157) (kx_dd d_Mo_last 94 rfl) rfl rfl ?_
        refine kx_getI (pc := 158) fl_Mo_606 (hm.k 0 rfl) rfl (kx_dd d_Mo_last 95 rfl) ?_
        refine kx_i2l (pc := 161) (kx_dd d_Mo_last 96 rfl) ?_
        refine kx_lcmp (pc := 162) (kx_dd d_Mo_last 97 rfl) ?_
        refine kx_if_gt (pc := 163) (tgt := 170) (kx_dd d_Mo_last 98 rfl) rfl (fun c163 => ?_) (fun c163 => ?_)
        · refine kx_aload_n (pc := 170) (kx_dd d_Mo_last 101 rfl) rfl rfl ?_
          refine kx_getR (pc := 171) (b := 151) fl_Mo_412 (hm.k 0 rfl) rfl (hm.r 66 rfl) (kx_dd d_Mo_last 102 rfl) ?_
          refine kx_iload (pc := 174) (kx_dd d_Mo_last 103 rfl) rfl ?_
          refine kx_ialdn (pc := 176) k (hm.t 67 rfl) rfl (by omega) (by decide) (kx_dd d_Mo_last 104 rfl) ?_
          refine kx_i2l (pc := 177) (kx_dd d_Mo_last 105 rfl) ?_
          refine kx_aload_n (pc := 178) (kx_dd d_Mo_last 106 rfl) rfl rfl ?_
          refine kx_getI (pc := 179) fl_Mo_606 (hm.k 0 rfl) rfl (kx_dd d_Mo_last 107 rfl) ?_
          refine kx_i2l (pc := 182) (kx_dd d_Mo_last 108 rfl) ?_
          refine kx_lmul (pc := 183) (kx_dd d_Mo_last 109 rfl) ?_
          refine kx_lload_n (pc := 184) (kx_dd d_Mo_last 110 rfl) rfl rfl ?_
          refine kx_lrem (pc := 185) (kx_dd d_Mo_last 111 rfl) (by intro z; have := (pk_lEQ (b := 0) (by omega) (by decide)).mp z; omega) ?_
          rw [show (kx_setI h 152 k (nI (g0F S (sumN (wtF S) S.1.2.2.1.1) k))).1 151 k = nI (wtF S k) from by rw [setI_ne (Or.inl (by decide))]; exact ew, show (kx_setI h 152 k (nI (g0F S (sumN (wtF S) S.1.2.2.1.1) k))).1 84 88 = nI S.2.1 from by rw [setI_ne (Or.inl (by decide))]; exact hS.2.1, nI_l (by omega), nI_l (by omega), lN_mul, pk_lRem (by omega) (by omega) (by omega)]
          rw [show lN (wtF S k * S.2.1 % (sumN (wtF S) S.1.2.2.1.1)) = r0F S (sumN (wtF S) S.1.2.2.1.1) k from by rw [er]; unfold rs0; rw [Nat.mul_comm]]
          refine kx_lastn (pc := 186) k (hm.t 69 rfl) (by decide) rfl (by omega) (by decide) (kx_dd d_Mo_last 112 rfl) ?_
          refine kx_iload_n (pc := 187) (kx_dd d_Mo_last 113 rfl) rfl rfl ?_
          refine kx_aload_n (pc := 188) (kx_dd d_Mo_last 114 rfl) rfl rfl ?_
          refine kx_getR (pc := 189) (b := 152) fl_Mo_415 (hm.k 0 rfl) rfl (hm.r 67 rfl) (kx_dd d_Mo_last 115 rfl) ?_
          refine kx_iload (pc := 192) (kx_dd d_Mo_last 116 rfl) rfl ?_
          refine kx_ialdn (pc := 194) k (hm.t 68 rfl) rfl (by omega) (by decide) (kx_dd d_Mo_last 117 rfl) ?_
          rw [show (kx_setL (kx_setI h 152 k (nI (g0F S (sumN (wtF S) S.1.2.2.1.1) k))) 153 k (r0F S (sumN (wtF S) S.1.2.2.1.1) k)).1 152 k = nI (g0F S (sumN (wtF S) S.1.2.2.1.1) k) from (by show (kx_setI h 152 k (nI (g0F S (sumN (wtF S) S.1.2.2.1.1) k))).1 152 k = _; exact setI_at)]
          refine kx_isub (pc := 195) (kx_dd d_Mo_last 118 rfl) ?_
          refine kx_istore_ne (pc := 196) (lv' := [_, _, _, _, _, _]) (kx_dd d_Mo_last 119 rfl) rfl (Nat.le_of_ble_eq_true rfl) rfl ?_
          refine kx_iinc_e (pc := 197) (v := nI (k + 1)) (lv' := [_, _, _, _, _, _]) (kx_dd d_Mo_last 120 rfl) rfl (Nat.le_of_ble_eq_true rfl) (nI_1 k) rfl ?_
          refine kx_goto (pc := 200) (tgt := 97) (kx_dd d_Mo_last 121 rfl) rfl ?_
          have e1 : sumN (g0F S (sumN (wtF S) S.1.2.2.1.1)) (k + 1) = sumN (g0F S (sumN (wtF S) S.1.2.2.1.1)) k + (g0F S (sumN (wtF S) S.1.2.2.1.1) k) := rfl
          have ih1 := ih (k + 1) (by omega)
          rw [e1] at ih1
          rw [pk_sub (by omega), show S.2.1 - sumN (g0F S (sumN (wtF S) S.1.2.2.1.1)) k - (g0F S (sumN (wtF S) S.1.2.2.1.1) k) = S.2.1 - (sumN (g0F S (sumN (wtF S) S.1.2.2.1.1)) k + (g0F S (sumN (wtF S) S.1.2.2.1.1) k)) by omega]
          refine ih1 _ _ ((hf.tr (kx_Fg.setI rfl)).tr (kx_Fg.setL rfl)) (fun i hi => ?_)
          by_cases e : i = k
          · rw [e]
            exact ⟨(by show (kx_setI h 152 k (nI (g0F S (sumN (wtF S) S.1.2.2.1.1) k))).1 152 k = _; exact setI_at), setL_at⟩
          · exact ⟨(by show (kx_setI h 152 k (nI (g0F S (sumN (wtF S) S.1.2.2.1.1) k))).1 152 i = _; rw [setI_ne (Or.inr e)]; exact (hG i (by omega)).1), by rw [setL_ne (Or.inr e)]; exact (hG i (by omega)).2⟩
        · exact absurd (by rw [show (kx_setI h 152 k (nI (g0F S (sumN (wtF S) S.1.2.2.1.1) k))).1 84 88 = nI S.2.1 from by rw [setI_ne (Or.inl (by decide))]; exact hS.2.1, lg_gt, nI_l (by omega), pk_lLT (by omega) (by omega)]; omega) c163
      · refine kx_aload_n (pc := 122) (kx_dd d_Mo_last 72 rfl) rfl rfl ?_
        refine kx_getR (pc := 123) (b := 151) fl_Mo_412 (hm.k 0 rfl) rfl (hm.r 66 rfl) (kx_dd d_Mo_last 73 rfl) ?_
        refine kx_iload (pc := 126) (kx_dd d_Mo_last 74 rfl) rfl ?_
        refine kx_ialdn (pc := 128) k (hm.t 67 rfl) rfl (by omega) (by decide) (kx_dd d_Mo_last 75 rfl) ?_
        refine kx_goto (pc := 129) (tgt := 149) (kx_dd d_Mo_last 76 rfl) rfl ?_
        rw [hS.2.1, lg_gt, nI_l (by omega), pk_lLT (by omega) (by omega)] at c119
        have eg : g0F S (sumN (wtF S) S.1.2.2.1.1) = wtF S := if_pos (by omega)
        have er : r0F S (sumN (wtF S) S.1.2.2.1.1) = fun _ => 0 := if_pos (by omega)
        rw [ew, show wtF S k = (g0F S (sumN (wtF S) S.1.2.2.1.1) k) from by rw [eg]]
        refine kx_iastn (pc := 149) k (hm.t 68 rfl) (by decide) rfl (by omega) (by decide) (kx_dd d_Mo_last 89 rfl) ?_
        refine kx_aload_n (pc := 150) (kx_dd d_Mo_last 90 rfl) rfl rfl ?_
        refine kx_getR (pc := 151) (b := 153) fl_Mo_418 (hm.k 0 rfl) rfl (hm.r 68 rfl) (kx_dd d_Mo_last 91 rfl) ?_
        refine kx_iload (pc := 154) (kx_dd d_Mo_last 92 rfl) rfl ?_
        refine kx_lload_n (pc := 156) (kx_dd d_Mo_last 93 rfl) rfl rfl ?_
        refine kx_aload_n (pc := 157) (kx_dd d_Mo_last 94 rfl) rfl rfl ?_
        refine kx_getI (pc := 158) fl_Mo_606 (hm.k 0 rfl) rfl (kx_dd d_Mo_last 95 rfl) ?_
        refine kx_i2l (pc := 161) (kx_dd d_Mo_last 96 rfl) ?_
        refine kx_lcmp (pc := 162) (kx_dd d_Mo_last 97 rfl) ?_
        refine kx_if_gt (pc := 163) (tgt := 170) (kx_dd d_Mo_last 98 rfl) rfl (fun c163 => ?_) (fun c163 => ?_)
        · exact absurd c163 (by rw [show (kx_setI h 152 k (nI (g0F S (sumN (wtF S) S.1.2.2.1.1) k))).1 84 88 = nI S.2.1 from by rw [setI_ne (Or.inl (by decide))]; exact hS.2.1, lg_gt, nI_l (by omega), pk_lLT (by omega) (by omega)]; omega)
        · refine kx_lconst (pc := 166) (v := 0) (kx_dd d_Mo_last 99 rfl) rfl ?_
          refine kx_goto (pc := 167) (tgt := 186) (kx_dd d_Mo_last 100 rfl) rfl ?_
          rw [show (0 : Int64) = r0F S (sumN (wtF S) S.1.2.2.1.1) k from by rw [er]]
          refine kx_lastn (pc := 186) k (hm.t 69 rfl) (by decide) rfl (by omega) (by decide) (kx_dd d_Mo_last 112 rfl) ?_
          refine kx_iload_n (pc := 187) (kx_dd d_Mo_last 113 rfl) rfl rfl ?_
          refine kx_aload_n (pc := 188) (kx_dd d_Mo_last 114 rfl) rfl rfl ?_
          refine kx_getR (pc := 189) (b := 152) fl_Mo_415 (hm.k 0 rfl) rfl (hm.r 67 rfl) (kx_dd d_Mo_last 115 rfl) ?_
          refine kx_iload (pc := 192) (kx_dd d_Mo_last 116 rfl) rfl ?_
          refine kx_ialdn (pc := 194) k (hm.t 68 rfl) rfl (by omega) (by decide) (kx_dd d_Mo_last 117 rfl) ?_
          rw [show (kx_setL (kx_setI h 152 k (nI (g0F S (sumN (wtF S) S.1.2.2.1.1) k))) 153 k (r0F S (sumN (wtF S) S.1.2.2.1.1) k)).1 152 k = nI (g0F S (sumN (wtF S) S.1.2.2.1.1) k) from (by show (kx_setI h 152 k (nI (g0F S (sumN (wtF S) S.1.2.2.1.1) k))).1 152 k = _; exact setI_at)]
          refine kx_isub (pc := 195) (kx_dd d_Mo_last 118 rfl) ?_
          refine kx_istore_ne (pc := 196) (lv' := [_, _, _, _, _, _]) (kx_dd d_Mo_last 119 rfl) rfl (Nat.le_of_ble_eq_true rfl) rfl ?_
          refine kx_iinc_e (pc := 197) (v := nI (k + 1)) (lv' := [_, _, _, _, _, _]) (kx_dd d_Mo_last 120 rfl) rfl (Nat.le_of_ble_eq_true rfl) (nI_1 k) rfl ?_
          refine kx_goto (pc := 200) (tgt := 97) (kx_dd d_Mo_last 121 rfl) rfl ?_
          have e1 : sumN (g0F S (sumN (wtF S) S.1.2.2.1.1)) (k + 1) = sumN (g0F S (sumN (wtF S) S.1.2.2.1.1)) k + (g0F S (sumN (wtF S) S.1.2.2.1.1) k) := rfl
          have ih1 := ih (k + 1) (by omega)
          rw [e1] at ih1
          rw [pk_sub (by omega), show S.2.1 - sumN (g0F S (sumN (wtF S) S.1.2.2.1.1)) k - (g0F S (sumN (wtF S) S.1.2.2.1.1) k) = S.2.1 - (sumN (g0F S (sumN (wtF S) S.1.2.2.1.1)) k + (g0F S (sumN (wtF S) S.1.2.2.1.1) k)) by omega]
          refine ih1 _ _ ((hf.tr (kx_Fg.setI rfl)).tr (kx_Fg.setL rfl)) (fun i hi => ?_)
          by_cases e : i = k
          · rw [e]
            exact ⟨(by show (kx_setI h 152 k (nI (g0F S (sumN (wtF S) S.1.2.2.1.1) k))).1 152 k = _; exact setI_at), setL_at⟩
          · exact ⟨(by show (kx_setI h 152 k (nI (g0F S (sumN (wtF S) S.1.2.2.1.1) k))).1 152 i = _; rw [setI_ne (Or.inr e)]; exact (hG i (by omega)).1), by rw [setL_ne (Or.inr e)]; exact (hG i (by omega)).2⟩
theorem y_w_loop {l : Launch} {g : kx_G} {d : Nat} (h0 : kx_Mem) (hm0 : SM h0) (S : FS3) (nw : Nat) (T : Nat → Nat) (ho : DKok S.1) (hS0 : FSm3 S nw T h0) (M : Nat) (hI : FnI S M) (Q : Option Value → kx_Mem → Prop) (kont : ∀ h w3 w4 w5, kx_Fg (fun a _ => a = 151) (fun _ _ => False) h0 h → (∀ i, i < S.1.2.2.1.1 → h.1 151 i = nI (wtF S i)) → kx_X (l, g, m_Mo_last, d + 1, 0, 0, Q) 0 0 89 [some (.ref 84), some (.long (lN (sumN (wtF S) S.1.2.2.1.1))), none, w3, w4, w5] [] h) : ∀ f k, k + f = S.1.2.2.1.1 → ∀ h w4 w5, kx_Fg (fun a _ => a = 151) (fun _ _ => False) h0 h → (∀ i, i < k → h.1 151 i = nI (wtF S i)) → kx_X (l, g, m_Mo_last, d + 1, 0, 0, Q) 0 0 42 [some (.ref 84), some (.long (lN (sumN (wtF S) k))), none, some (.int (nI k)), w4, w5] [] h := by
  intro f
  induction f with
  | zero =>
    intro k hk h w4 w5 hf hG
    have e : k = S.1.2.2.1.1 := by omega
    subst e
    have hm : SM h := hm0.fg hf
    have hS : FSm3 S nw T h := hS0.fg hf (fun a j z => by omega)
    have o1 := ho.2.2.1.1
    have e51 : h.1 84 51 = nI S.1.2.2.1.1 := hS.1.2.2.1.1
    have hM := hI.1
    have hKM := hI.2.1
    have hWl := wtS_le ho S.1.2.2.1.1 (Nat.le_refl _)
    refine kx_iload_n (pc := 42) (kx_dd d_Mo_last 25 rfl) rfl rfl ?_
    refine kx_aload_n (pc := 43) (kx_dd d_Mo_last 26 rfl) rfl rfl ?_
    refine kx_getI (pc := 44) fl_Mo_510 (hm.k 0 rfl) rfl (kx_dd d_Mo_last 27 rfl) ?_
    refine kx_icmp_ge (pc := 47) (tgt := 89) (kx_dd d_Mo_last 28 rfl) rfl (fun c47 => ?_) (fun c47 => ?_)
    · exact kont h _ _ _ hf hG
    · exact absurd (by rw [e51]; exact Int32.le_refl _) c47
  | succ f ih =>
    intro k hk9 h w4 w5 hf hG
    have hm : SM h := hm0.fg hf
    have hS : FSm3 S nw T h := hS0.fg hf (fun a j z => by omega)
    have o1 := ho.2.2.1.1
    have e51 : h.1 84 51 = nI S.1.2.2.1.1 := hS.1.2.2.1.1
    have hM := hI.1
    have hKM := hI.2.1
    have hWl := wtS_le ho S.1.2.2.1.1 (Nat.le_refl _)
    have hk : k < S.1.2.2.1.1 := by omega
    have hI2 := hI.2.2 k hk
    have hp := hS.1
    have q10 : cN S.1.2.2.1 k 10 ≤ 6600000 := (ho.2.2.1.2 k hk).2.2.2.2.2.2.2.2.2.2.2.1
    have e10 : h.1 132 k = nI (cN S.1.2.2.1 k 10) := ((hp.2.2.1.2 k hk).1 10 (by decide) (by decide) (by decide)).trans ((ho.2.2.1.2 k hk).1 10 (by decide) (by decide) (by decide) (by decide))
    have e11 : h.1 133 k = nI (cN S.1.2.2.1 k 11) := ((hp.2.2.1.2 k hk).1 11 (by decide) (by decide) (by decide)).trans hI2.1
    have wl := wtF_le ho hk
    refine kx_iload_n (pc := 42) (kx_dd d_Mo_last 25 rfl) rfl rfl ?_
    refine kx_aload_n (pc := 43) (kx_dd d_Mo_last 26 rfl) rfl rfl ?_
    refine kx_getI (pc := 44) fl_Mo_510 (hm.k 0 rfl) rfl (kx_dd d_Mo_last 27 rfl) ?_
    refine kx_icmp_ge (pc := 47) (tgt := 89) (kx_dd d_Mo_last 28 rfl) rfl (fun c47 => ?_) (fun c47 => ?_)
    · exact absurd c47 (by rw [e51]; exact nI_ge (by omega) (by omega))
    · refine kx_aload_n (pc := 50) (kx_dd d_Mo_last 29 rfl) rfl rfl ?_
      refine kx_getR (pc := 51) (b := 151) fl_Mo_412 (hm.k 0 rfl) rfl (hm.r 66 rfl) (kx_dd d_Mo_last 30 rfl) ?_
      refine kx_iload_n (pc := 54) (kx_dd d_Mo_last 31 rfl) rfl rfl ?_
      refine kx_iconst (pc := 55) (v := 0) (kx_dd d_Mo_last 32 rfl) rfl ?_
      refine kx_aload_n (pc := 56) (kx_dd d_Mo_last 33 rfl) rfl rfl ?_
      refine kx_getR (pc := 57) (b := 132) fl_Mo_354 (hm.k 0 rfl) rfl (hm.r 47 rfl) (kx_dd d_Mo_last 34 rfl) ?_
      refine kx_iload_n (pc := 60) (kx_dd d_Mo_last 35 rfl) rfl rfl ?_
      refine kx_ialdn (pc := 61) k (hm.t 48 rfl) rfl (by omega) (by decide) (kx_dd d_Mo_last 36 rfl) ?_
      refine kx_aload_n (pc := 62) (kx_dd d_Mo_last 37 rfl) rfl rfl ?_
      refine kx_getR (pc := 63) (b := 133) fl_Mo_357 (hm.k 0 rfl) rfl (hm.r 48 rfl) (kx_dd d_Mo_last 38 rfl) ?_
      refine kx_iload_n (pc := 66) (kx_dd d_Mo_last 39 rfl) rfl rfl ?_
      refine kx_ialdn (pc := 67) k (hm.t 49 rfl) rfl (by omega) (by decide) (kx_dd d_Mo_last 40 rfl) ?_
      refine kx_isub (pc := 68) (kx_dd d_Mo_last 41 rfl) ?_
      refine kx_mmax (pc := 69) mk_Mo_541 (kx_dd d_Mo_last 42 rfl) (Nat.le_of_ble_eq_true rfl) (Nat.le_of_ble_eq_true rfl) (Nat.le_refl _) (Nat.le_refl _) ?_
      rw [e10, e11, wantI (by omega) (by omega), show cN S.1.2.2.1 k 10 - cN S.1.2.2.1 k 11 = wtF S k from rfl]
      refine kx_iastn (pc := 72) k (hm.t 67 rfl) (by decide) rfl (by omega) (by decide) (kx_dd d_Mo_last 43 rfl) ?_
      refine kx_lload_n (pc := 73) (kx_dd d_Mo_last 44 rfl) rfl rfl ?_
      refine kx_aload_n (pc := 74) (kx_dd d_Mo_last 45 rfl) rfl rfl ?_
      refine kx_getR (pc := 75) (b := 151) fl_Mo_412 (hm.k 0 rfl) rfl (hm.r 66 rfl) (kx_dd d_Mo_last 46 rfl) ?_
      refine kx_iload_n (pc := 78) (kx_dd d_Mo_last 47 rfl) rfl rfl ?_
      refine kx_ialdn (pc := 79) k (hm.t 67 rfl) rfl (by omega) (by decide) (kx_dd d_Mo_last 48 rfl) ?_
      rw [setI_at]
      refine kx_i2l (pc := 80) (kx_dd d_Mo_last 49 rfl) ?_
      refine kx_ladd (pc := 81) (kx_dd d_Mo_last 50 rfl) ?_
      rw [nI_l (by omega), lN_add]
      refine kx_lstore_ne (pc := 82) (lv' := [_, _, _, _, _, _]) (kx_dd d_Mo_last 51 rfl) rfl (Nat.le_of_ble_eq_true rfl) rfl ?_
      refine kx_iinc_e (pc := 83) (v := nI (k + 1)) (lv' := [_, _, _, _, _, _]) (kx_dd d_Mo_last 52 rfl) rfl (Nat.le_of_ble_eq_true rfl) (nI_1 k) rfl ?_
      refine kx_goto (pc := 86) (tgt := 42) (kx_dd d_Mo_last 53 rfl) rfl ?_
      refine ih (k + 1) (by omega) _ _ _ (hf.tr (kx_Fg.setI rfl)) (fun i hi => ?_)
      by_cases e : i = k
      · rw [e]; exact setI_at
      · rw [setI_ne (Or.inr e)]; exact hG i (by omega)
theorem y_pd_loop {l : Launch} {g : kx_G} {d : Nat} {h : kx_Mem} (hm : SM h) (nw : Nat) (T : Nat → Nat) (hwt : WTok nw T) (D : DK) (ho : DKok D) (hp : DKm D nw T h) (Q : Option Value → kx_Mem → Prop) (hQ : penD D → Q (some (.int (-4))) h) (kont : ∀ w1 w2 w3 w4 w5, ¬ penD D → kx_X (l, g, m_Mo_last, d, 0, 0, Q) 0 0 38 [some (.ref 84), w1, w2, w3, w4, w5] [] h) : ∀ f k, k + f = D.2.2.1.1 → (∀ c, c < k → ¬ (cN D.2.2.1 c 8 = 0 ∨ cN D.2.2.1 c 8 = 1)) → ∀ w2 w3 w4 w5, kx_X (l, g, m_Mo_last, d, 0, 0, Q) 0 0 2 [some (.ref 84), some (.int (nI k)), w2, w3, w4, w5] [] h := by
  intro f
  induction f with
  | zero =>
    intro k hk hn w2 w3 w4 w5
    have e : k = D.2.2.1.1 := by omega
    subst e
    have e51 : h.1 84 51 = nI D.2.2.1.1 := hp.2.2.1.1
    refine kx_iload_n (pc := 2) (kx_dd d_Mo_last 2 rfl) rfl rfl ?_
    refine kx_aload_n (pc := 3) (kx_dd d_Mo_last 3 rfl) rfl rfl ?_
    refine kx_getI (pc := 4) fl_Mo_510 (hm.k 0 rfl) rfl (kx_dd d_Mo_last 4 rfl) ?_
    refine kx_icmp_ge (pc := 7) (tgt := 38) (kx_dd d_Mo_last 5 rfl) rfl (fun c7 => ?_) (fun c7 => ?_)
    · exact kont _ _ _ _ _ (fun z => by obtain ⟨c, hc, hz⟩ := z; exact hn c hc hz)
    · exact absurd (by rw [e51]; exact Int32.le_refl _) c7
  | succ f ih =>
    intro k hk9 hn w2 w3 w4 w5
    have o1 := ho.2.2.1.1
    have e51 : h.1 84 51 = nI D.2.2.1.1 := hp.2.2.1.1
    have hk : k < D.2.2.1.1 := by omega
    have e8 : h.1 130 k = nI (cN D.2.2.1 k 8) := ((hp.2.2.1.2 k hk).1 8 (by decide) (by decide) (by decide)).trans ((ho.2.2.1.2 k hk).1 8 (by decide) (by decide) (by decide) (by decide))
    have b8 : cN D.2.2.1 k 8 ≤ 3 := (ho.2.2.1.2 k hk).2.2.2.2.2.2.2.2.2.1
    refine kx_iload_n (pc := 2) (kx_dd d_Mo_last 2 rfl) rfl rfl ?_
    refine kx_aload_n (pc := 3) (kx_dd d_Mo_last 3 rfl) rfl rfl ?_
    refine kx_getI (pc := 4) fl_Mo_510 (hm.k 0 rfl) rfl (kx_dd d_Mo_last 4 rfl) ?_
    refine kx_icmp_ge (pc := 7) (tgt := 38) (kx_dd d_Mo_last 5 rfl) rfl (fun c7 => ?_) (fun c7 => ?_)
    · exact absurd c7 (by rw [e51]; exact nI_ge (by omega) (by omega))
    · refine kx_aload_n (pc := 10) (kx_dd d_Mo_last 6 rfl) rfl rfl ?_
      refine kx_getR (pc := 11) (b := 130) fl_Mo_348 (hm.k 0 rfl) rfl (hm.r 45 rfl) (kx_dd d_Mo_last 7 rfl) ?_
      refine kx_iload_n (pc := 14) (kx_dd d_Mo_last 8 rfl) rfl rfl ?_
      refine kx_ialdn (pc := 15) k (hm.t 46 rfl) rfl (by omega) (by decide) (kx_dd d_Mo_last 9 rfl) ?_
      refine kx_if_eq (pc := 16) (tgt := 29) (kx_dd d_Mo_last 10 rfl) rfl (fun c16 => ?_) (fun c16 => ?_)
      · refine kx_bipush (pc := 29) (v := -4) (kx_dd d_Mo_last 17 rfl) rfl ?_
        refine kx_iret (pc := 31) rfl (kx_dd d_Mo_last 18 rfl) (Nat.le_refl _) (Nat.le_refl _) ?_
        rw [e8, nI_z (by omega)] at c16
        exact hQ ⟨k, hk, Or.inl c16⟩
      · refine kx_aload_n (pc := 19) (kx_dd d_Mo_last 11 rfl) rfl rfl ?_
        refine kx_getR (pc := 20) (b := 130) fl_Mo_348 (hm.k 0 rfl) rfl (hm.r 45 rfl) (kx_dd d_Mo_last 12 rfl) ?_
        refine kx_iload_n (pc := 23) (kx_dd d_Mo_last 13 rfl) rfl rfl ?_
        refine kx_ialdn (pc := 24) k (hm.t 46 rfl) rfl (by omega) (by decide) (kx_dd d_Mo_last 14 rfl) ?_
        refine kx_iconst (pc := 25) (v := 1) (kx_dd d_Mo_last 15 rfl) rfl ?_
        refine kx_icmp_ne (pc := 26) (tgt := 32) (kx_dd d_Mo_last 16 rfl) rfl (fun c26 => ?_) (fun c26 => ?_)
        · refine kx_iinc_e (pc := 32) (v := nI (k + 1)) (lv' := [_, _, _, _, _, _]) (kx_dd d_Mo_last 19 rfl) rfl (Nat.le_of_ble_eq_true rfl) (nI_1 k) rfl ?_
          refine kx_goto (pc := 35) (tgt := 2) (kx_dd d_Mo_last 20 rfl) rfl ?_
          rw [e8, nI_z (by omega)] at c16
          rw [e8, show (1 : Int32) = nI 1 from rfl, nI_eq (by omega) (by decide)] at c26
          refine ih (k + 1) (by omega) (fun c hc z => ?_) _ _ _ _
          rcases Nat.lt_succ_iff_lt_or_eq.mp hc with y | y
          · exact hn c y z
          · rw [y] at z; exact z.elim c16 c26
        · refine kx_bipush (pc := 29) (v := -4) (kx_dd d_Mo_last 17 rfl) rfl ?_
          refine kx_iret (pc := 31) rfl (kx_dd d_Mo_last 18 rfl) (Nat.le_refl _) (Nat.le_refl _) ?_
          rw [e8, show (1 : Int32) = nI 1 from rfl, nI_eq (by omega) (by decide)] at c26
          exact hQ ⟨k, hk, Or.inr c26⟩
theorem y_last {l : Launch} {g : kx_G} {d : Nat} {h : kx_Mem} (hm : SM h) (S : FS3) (nw : Nat) (T : Nat → Nat) (hwt : WTok nw T) (ho : DKok S.1) (hS : FSm3 S nw T h) (M : Nat) (hI : FnI S M) (td : Nat) (htd : td < 2 ^ 31) (hck : h.1 84 36 = nI td) : kx_Sp l g m_Mo_last [.ref 84] h (d + 7) 0 0 (fun v h' => v = some (.int (lasR S td).1) ∧ FSm3 (lasR S td).2 nw T h' ∧ kx_Fg (FlM S.1.2.2.1.1) FlL h h') := by
  have o1 := ho.2.2.1.1
  have hM := hI.1
  have hKM := hI.2.1
  have hWl := wtS_le ho S.1.2.2.1.1 (Nat.le_refl _)
  refine kx_enter_e (lv := [_, _, _, _, _, _]) (by decide +kernel) (Nat.le_of_ble_eq_true rfl) rfl ?_
  refine kx_iconst (pc := 0) (v := 0) (kx_dd d_Mo_last 0 rfl) rfl ?_
  refine kx_istore_ne (pc := 1) (lv' := [_, _, _, _, _, _]) (kx_dd d_Mo_last 1 rfl) rfl (Nat.le_of_ble_eq_true rfl) rfl ?_
  refine y_pd_loop (d := d + 7) hm nw T hwt S.1 ho hS.1 _ (fun z => ⟨by rw [lasR_y z], by rw [lasR_y z]; exact hS, kx_Fg.rf⟩) (fun w1 w2 w3 w4 w5 hnp => ?_) S.1.2.2.1.1 0 (by omega) (fun c hc => absurd hc (Nat.not_lt_zero c)) _ _ _ _
  refine kx_lconst (pc := 38) (v := 0) (kx_dd d_Mo_last 21 rfl) rfl ?_
  refine kx_lstore_ne (pc := 39) (lv' := [_, _, _, _, _, _]) (kx_dd d_Mo_last 22 rfl) rfl (Nat.le_of_ble_eq_true rfl) rfl ?_
  refine kx_iconst (pc := 40) (v := 0) (kx_dd d_Mo_last 23 rfl) rfl ?_
  refine kx_istore_ne (pc := 41) (lv' := [_, _, _, _, _, _]) (kx_dd d_Mo_last 24 rfl) rfl (Nat.le_of_ble_eq_true rfl) rfl ?_
  refine y_w_loop (d := d + 6) h hm S nw T ho hS M hI _ (fun h1 w3 w4 w5 hf1 hw1 => ?_) S.1.2.2.1.1 0 (by omega) h _ _ kx_Fg.rf (fun i hi => absurd hi (Nat.not_lt_zero i))
  have hm1 : SM h1 := hm.fg hf1
  have hS1 : FSm3 S nw T h1 := hS.fg hf1 (fun a j z => by omega)
  have hgs : sumN (g0F S (sumN (wtF S) S.1.2.2.1.1)) S.1.2.2.1.1 ≤ S.2.1 := by
    unfold g0F
    split
    next z => exact z
    next z => exact (ov_lt (S := S) (n := S.1.2.2.1.1) rfl (by omega)).1
  refine kx_aload_n (pc := 89) (kx_dd d_Mo_last 54 rfl) rfl rfl ?_
  refine kx_getI (pc := 90) fl_Mo_606 (hm1.k 0 rfl) rfl (kx_dd d_Mo_last 55 rfl) ?_
  rw [show h1.1 84 88 = nI S.2.1 from hS1.2.1]
  refine kx_istore_ne (pc := 93) (lv' := [_, _, _, _, _, _]) (kx_dd d_Mo_last 56 rfl) rfl (Nat.le_of_ble_eq_true rfl) rfl ?_
  refine kx_iconst (pc := 94) (v := 0) (kx_dd d_Mo_last 57 rfl) rfl ?_
  refine kx_istore_e (pc := 95) (lv' := [_, _, _, _, _, _]) (kx_dd d_Mo_last 58 rfl) (Nat.le_of_ble_eq_true rfl) rfl ?_
  refine y_g_loop (d := d + 7) h1 hm1 S nw T ho hS1 M hI hw1 _ (fun h2 w4 w5 hf2 hg2 => ?_) hgs S.1.2.2.1.1 0 (by omega) h1 _ kx_Fg.rf (fun i hi => absurd hi (Nat.not_lt_zero i))
  have hm2 : SM h2 := hm1.fg hf2
  have hS2 : FSm3 S nw T h2 := hS1.fg hf2 (fun a j z => by unfold FlI; omega)
  by_cases hle : (sumN (wtF S) S.1.2.2.1.1) ≤ S.2.1
  · have hm9 := hm
    have e88 := hS2.2.1
    have hmX : SM h2 := hm2
    refine kx_lload_n (pc := 203) (kx_dd d_Mo_last 122 rfl) rfl rfl ?_
    refine kx_aload_n (pc := 204) (kx_dd d_Mo_last 123 rfl) rfl rfl ?_
    refine kx_getI (pc := 205) fl_Mo_606 (hm2.k 0 rfl) rfl (kx_dd d_Mo_last 124 rfl) ?_
    refine kx_i2l (pc := 208) (kx_dd d_Mo_last 125 rfl) ?_
    refine kx_lcmp (pc := 209) (kx_dd d_Mo_last 126 rfl) ?_
    refine kx_if_le (pc := 210) (tgt := 293) (kx_dd d_Mo_last 127 rfl) rfl (fun c210 => ?_) (fun c210 => ?_)
    · have hf9 : kx_Fg FlI FlL h h2 := (hf1.mono (fun a j z => Or.inl z) (fun _ _ z => z.elim)).tr hf2
      refine kx_iconst (pc := 293) (v := 0) (kx_dd d_Mo_last 170 rfl) rfl ?_
      refine kx_istore_e (pc := 294) (lv' := [_, _, _, _, _, _]) (kx_dd d_Mo_last 171 rfl) (Nat.le_of_ble_eq_true rfl) rfl ?_
      refine kx_iconst (pc := 296) (v := 0) (kx_dd d_Mo_last 172 rfl) rfl ?_
      refine kx_istore_e (pc := 297) (lv' := [_, _, _, _, _, _]) (kx_dd d_Mo_last 173 rfl) (Nat.le_of_ble_eq_true rfl) rfl ?_
      refine kx_mono (fun v h' z => ?_) (y_la_p (d := d) h2 (hm.fg hf9) S nw T ho M hI td htd (by rw [hf9.1 84 36 (by unfold FlI; omega)]; exact hck) (getF S (sumN (wtF S) S.1.2.2.1.1)) (get_sum rfl) (fun i hi => by rw [(hg2 i hi).1, show g0F S (sumN (wtF S) S.1.2.2.1.1) = getF S (sumN (wtF S) S.1.2.2.1.1) from by unfold g0F getF; rw [if_pos hle, if_pos hle]]) _ S.1.2.2.1.1 0 (by omega) h2 _ kx_Fc.rf hS2)
      exact ⟨by rw [lasR_n hnp]; exact z.1, by rw [lasR_n hnp]; exact z.2.1, (hf9.mono (fun a j z => z.elim (fun y => Or.inr (Or.inl y)) (fun y => Or.inr (Or.inr y))) (fun _ _ z => z)).tr ((z.2.2.mono (fun a j z => Or.inl z)).g)⟩
    · exact absurd (by rw [hS2.2.1, lg_cmp_le, nI_l (by omega), pk_lLE (by omega) (by omega)]; exact hle) c210
  · have er0 : g0F S (sumN (wtF S) S.1.2.2.1.1) = sh0 S (sumN (wtF S) S.1.2.2.1.1) := if_neg hle
    have err : r0F S (sumN (wtF S) S.1.2.2.1.1) = rs0 S (sumN (wtF S) S.1.2.2.1.1) := if_neg hle
    rw [er0] at hg2 ⊢
    rw [err] at hg2
    refine y_rd_loop (d := d + 7) h2 hm2 S nw T ho hS2 M hI (by omega) _ (fun h3 w3 w4 w5 hf3 hg3 => ?_) (S.2.1 - sumN (sh0 S (sumN (wtF S) S.1.2.2.1.1)) S.1.2.2.1.1) 0 (by omega) h2 _ _ kx_Fg.rf ?_
    · have hS3 : FSm3 S nw T h3 := hS2.fg hf3 (fun a j z => by unfold FlI; omega)
      have hf9 : kx_Fg FlI FlL h h3 := (hf1.mono (fun a j z => Or.inl z) (fun _ _ z => z.elim)).tr (hf2.tr hf3)
      refine kx_iconst (pc := 293) (v := 0) (kx_dd d_Mo_last 170 rfl) rfl ?_
      refine kx_istore_e (pc := 294) (lv' := [_, _, _, _, _, _]) (kx_dd d_Mo_last 171 rfl) (Nat.le_of_ble_eq_true rfl) rfl ?_
      refine kx_iconst (pc := 296) (v := 0) (kx_dd d_Mo_last 172 rfl) rfl ?_
      refine kx_istore_e (pc := 297) (lv' := [_, _, _, _, _, _]) (kx_dd d_Mo_last 173 rfl) (Nat.le_of_ble_eq_true rfl) rfl ?_
      refine kx_mono (fun v h' z => ?_) (y_la_p (d := d) h3 (hm.fg hf9) S nw T ho M hI td htd (by rw [hf9.1 84 36 (by unfold FlI; omega)]; exact hck) (getF S (sumN (wtF S) S.1.2.2.1.1)) (get_sum rfl) hg3 _ S.1.2.2.1.1 0 (by omega) h3 _ kx_Fc.rf hS3)
      exact ⟨by rw [lasR_n hnp]; exact z.1, by rw [lasR_n hnp]; exact z.2.1, (hf9.mono (fun a j z => z.elim (fun y => Or.inr (Or.inl y)) (fun y => Or.inr (Or.inr y))) (fun _ _ z => z)).tr ((z.2.2.mono (fun a j z => Or.inl z)).g)⟩
    · exact hg2
