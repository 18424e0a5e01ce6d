/-! the reference: reading, its pieces -/
theorem lm_Mo_149 : Cond.methodLink "TreatyClaimsModel" 149 m_Mo_readOnce.1 ∈ kx_good := kx_ic kx_L6 221 (by decide +kernel) rfl
theorem lm_Mo_152 : Cond.methodLink "TreatyClaimsModel" 152 m_Mo_readMany.1 ∈ kx_good := kx_ic kx_L7 20 (by decide +kernel) rfl
theorem lm_Mo_155 : Cond.methodLink "TreatyClaimsModel" 155 m_Mo_number.1 ∈ kx_good := kx_ic kx_L6 225 (by decide +kernel) rfl
theorem lm_Mo_173 : Cond.methodLink "TreatyClaimsModel" 173 m_Mo_readChoice.1 ∈ kx_good := kx_ic kx_L7 1 (by decide +kernel) rfl
theorem lm_Mo_176 : Cond.methodLink "TreatyClaimsModel" 176 m_Mo_readOrder.1 ∈ kx_good := kx_ic kx_L7 5 (by decide +kernel) rfl
theorem lm_Mo_201 : Cond.methodLink "TreatyClaimsModel" 201 m_Mo_readKind.1 ∈ kx_good := kx_ic kx_L7 33 (by decide +kernel) rfl
theorem lm_Mo_217 : Cond.methodLink "TreatyClaimsModel" 217 m_Mo_word.1 ∈ kx_good := kx_ic kx_L7 39 (by decide +kernel) rfl
theorem lm_Mo_242 : Cond.methodLink "TreatyClaimsModel" 242 m_Mo_readAll.1 ∈ kx_good := kx_ic kx_L6 189 (by decide +kernel) rfl
/-- long words -/
def wz : Nat → (Nat → Nat) → Nat
  | 0, _ => 0
  | n + 1, T => wz n T + (if 32 ≤ T n then 1 else 0)
def bgw (c : Nat) : Nat := if 32 ≤ c then 1 else 0
def smL : Nat → (Nat → Nat) → List Nat
  | 0, _ => []
  | n + 1, T => if T n < 32 then T n :: smL n T else smL n T
theorem smL_mem {T : Nat → Nat} {x : Nat} : ∀ n, x ∈ smL n T → x < 32 ∧ ∃ i, i < n ∧ T i = x
  | 0, h => by cases h
  | n + 1, h => by
    unfold smL at h
    split at h
    next q =>
      rcases List.mem_cons.mp h with e | e
      · exact ⟨by omega, n, by omega, e.symm⟩
      · obtain ⟨h1, i, h2, h3⟩ := smL_mem n e
        exact ⟨h1, i, by omega, h3⟩
    next =>
      obtain ⟨h1, i, h2, h3⟩ := smL_mem n h
      exact ⟨h1, i, by omega, h3⟩
theorem smL_nd {T : Nat → Nat} : ∀ n, (∀ i j, i < n → j < n → T i = T j → i = j) → (smL n T).Nodup ∧ (smL n T).length + wz n T = n
  | 0, _ => ⟨List.nodup_nil, rfl⟩
  | n + 1, hi => by
    obtain ⟨h1, h2⟩ := smL_nd n (fun i j a b => hi i j (by omega) (by omega))
    unfold smL wz
    by_cases q : T n < 32
    · rw [if_pos q, if_neg (by omega)]
      refine ⟨List.nodup_cons.mpr ⟨fun z => ?_, h1⟩, by simp only [List.length_cons]; omega⟩
      obtain ⟨-, i, h3, h4⟩ := smL_mem n z
      have := hi i n (by omega) (by omega) h4
      omega
    · rw [if_neg q, if_pos (by omega)]
      exact ⟨h1, by omega⟩
theorem wz_cap {n : Nat} {T : Nat → Nat} (h : WTok n T) : n ≤ 32 + wz n T := by
  obtain ⟨h1, h2⟩ := smL_nd n h.2.1
  have := nodupN 32 (smL n T) (fun x hx => (smL_mem n hx).1) h1
  omega
theorem wz_congr {T T' : Nat → Nat} : ∀ n, (∀ j, j < n → T' j = T j) → wz n T' = wz n T
  | 0, _ => rfl
  | n + 1, h => by
    unfold wz
    rw [wz_congr n (fun j hj => h j (by omega)), h n (by omega)]
def WEx (n : Nat) (T : Nat → Nat) (n' : Nat) (T' : Nat → Nat) : Prop := n ≤ n' ∧ ∀ j, j < n → T' j = T j
theorem WEx.rf {n : Nat} {T : Nat → Nat} : WEx n T n T := ⟨Nat.le_refl _, fun _ _ => rfl⟩
theorem WEx.tr {n n1 n2 : Nat} {T T1 T2 : Nat → Nat} (a : WEx n T n1 T1) (b : WEx n1 T1 n2 T2) : WEx n T n2 T2 := ⟨Nat.le_trans a.1 b.1, fun j hj => (b.2 j (Nat.lt_of_lt_of_le hj a.1)).trans (a.2 j hj)⟩
theorem waF_ex {n : Nat} {T : Nat → Nat} {c : Nat} : WEx n T (waF n T c).1 (waF n T c).2 := by
  unfold waF
  split
  · exact WEx.rf
  · exact ⟨Nat.le_succ n, fun j hj => if_neg (by omega)⟩
theorem waF_wz {n : Nat} {T : Nat → Nat} {c : Nat} : wz (waF n T c).1 (waF n T c).2 ≤ wz n T + bgw c := by
  unfold waF
  split
  · exact Nat.le_add_right _ _
  · show wz (n + 1) (upF T n c) ≤ _
    show wz n (upF T n c) + (if 32 ≤ upF T n c n then 1 else 0) ≤ wz n T + bgw c
    rw [wz_congr (T := T) (T' := upF T n c) n (fun j hj => if_neg (by omega)), show upF T n c n = c from if_pos rfl]
    exact Nat.le_refl _
theorem waF_ok {n : Nat} {T : Nat → Nat} {c : Nat} (h : WTok n T) (hn : n < 2000) (h0 : 0 < c) (h1 : c < 2 ^ 60) : WTok (waF n T c).1 (waF n T c).2 := by
  unfold waF
  split
  · exact h
  next hno =>
    have hno' : ∀ j, j < n → T j ≠ c := fun j hj e => hno ⟨j, hj, e⟩
    refine ⟨by show n + 1 ≤ 2000; omega, fun i j hi hj e => ?_, fun i hi => ?_⟩
    · have hi' : i < n + 1 := hi
      have hj' : j < n + 1 := hj
      have e' : upF T n c i = upF T n c j := e
      unfold upF at e'
      by_cases e1 : i = n
      · by_cases e2 : j = n
        · omega
        · rw [if_pos e1, if_neg e2] at e'
          exact absurd e'.symm (hno' j (by omega))
      · by_cases e2 : j = n
        · rw [if_neg e1, if_pos e2] at e'
          exact absurd e' (hno' i (by omega))
        · rw [if_neg e1, if_neg e2] at e'
          exact h.2.1 i j (by omega) (by omega) e'
    · have hi' : i < n + 1 := hi
      show 0 < upF T n c i ∧ upF T n c i < 2 ^ 60
      unfold upF
      split
      · exact ⟨h0, h1⟩
      · exact h.2.2 i (by omega)
theorem wdI.ex {n n' : Nat} {T T' : Nat → Nat} {c : Nat} {x : Int32} (h : wdI n T c x) (he : WEx n T n' T') : wdI n' T' c x := by
  obtain ⟨i, h1, h2, h3⟩ := h
  exact ⟨i, Nat.lt_of_lt_of_le h1 he.1, (he.2 i h1).trans h2, h3⟩
theorem RUm.ex {r : RU} {v n n' : Nat} {T T' : Nat → Nat} {h : kx_Mem} (hp : RUm r v n T h) (he : WEx n T n' T') : RUm r v n' T' h := by
  obtain ⟨h1, h2, h3, h4, h5, h6, h7, h8, h9, h10⟩ := hp
  exact ⟨h1, h2, h3, fun k hk => ⟨(h4 k hk).1.ex he, (h4 k hk).2⟩, h5, fun k hk => ⟨(h6 k hk).1.ex he, (h6 k hk).2⟩, h7, fun i x hx => ⟨(h8 i x hx).1.ex he, (h8 i x hx).2⟩, h9, fun i x hx => ⟨(h10 i x hx).1.ex he, (h10 i x hx).2⟩⟩
def FrD (a j : Nat) : Prop := (a = 84 ∧ (j = 2 ∨ (7 ≤ j ∧ j ≤ 12))) ∨ a = 85 ∨ a = 86 ∨ (a = 89 ∧ 44 ≤ j) ∨ (a = 90 ∧ 16 ≤ j) ∨ ((a = 91 ∨ a = 94 ∨ a = 97 ∨ a = 100) ∧ j = 4) ∨ ((a = 92 ∨ a = 93) ∧ 64 ≤ j) ∨ ((a = 95 ∨ a = 96 ∨ a = 98 ∨ a = 99 ∨ a = 101 ∨ a = 102 ∨ a = 103) ∧ 40 ≤ j) ∨ a = 105 ∨ a = 106
def FrK (a j : Nat) : Prop := (a = 84 ∧ (j = 2 ∨ (7 ≤ j ∧ j ≤ 12))) ∨ a = 85 ∨ a = 86 ∨ (a = 91 ∧ j = 4) ∨ ((a = 92 ∨ a = 93) ∧ 64 ≤ j) ∨ a = 105
theorem kx_Fc.fk {h h' : kx_Mem} (hf : kx_Fc FrK h h') : kx_Fc FrD h h' := hf.mono (fun a j z => by unfold FrK at z; unfold FrD; omega)
/-- the reference at work on a text: token i at hand -/
def RM (b : Nat → Int32) (n i : Nat) (r : RU) (fl : Nat → Prop) (nw : Nat) (T : Nat → Nat) (z : Nat) (h : kx_Mem) : Prop := SM h ∧ (TapM b n h ∧ BY b) ∧ i ≤ n ∧ TokM b n i h ∧ RUok r ∧ RUm r 4 nw T h ∧ (WTok nw T ∧ WTm nw T h ∧ wz nw T ≤ z) ∧ (∀ k, k < ruK r → h.1 105 k = bP (fl k)) ∧ h.1 84 11 = 0 ∧ h.1 84 12 = -1
def FaM (f : Fa) (h' : kx_Mem) : Prop := h'.1 84 11 = nI f.1 ∧ h'.1 84 12 = nI f.2
/-- it threw: what is left -/
def ZF (f : Fa) (nw : Nat) (T : Nat → Nat) (z : Nat) (h h' : kx_Mem) : Prop := ∃ nw' T', FaM f h' ∧ WTok nw' T' ∧ WTm nw' T' h' ∧ WEx nw T nw' T' ∧ wz nw' T' ≤ z ∧ kx_Fc FrD h h'
theorem ZF.up {f : Fa} {nw nw1 : Nat} {T T1 : Nat → Nat} {z z1 : Nat} {h h1 h' : kx_Mem} (a : ZF f nw1 T1 z1 h1 h') (he : WEx nw T nw1 T1) (hz : z1 ≤ z) (hf : kx_Fc FrD h h1) : ZF f nw T z h h' := by
  obtain ⟨n2, T2, a1, a2, a3, a4, a5, a6⟩ := a
  exact ⟨n2, T2, a1, a2, a3, he.tr a4, by omega, hf.tr a6⟩
theorem WTm.fc {n : Nat} {T : Nat → Nat} {P : Nat → Nat → Prop} {h h' : kx_Mem} (hp : WTm n T h) (hf : kx_Fc P h h') (h1 : ¬ P 84 2) (h2 : ∀ j, ¬ P 85 j ∧ ¬ P 86 j) : WTm n T h' := by
  have e85 : h'.1 85 = h.1 85 := by funext j; exact hf.2 85 j (h2 j).1
  have e86 : h'.1 86 = h.1 86 := by funext j; exact hf.2 86 j (h2 j).2
  unfold WTm
  rw [hf.2 84 2 h1, e85, e86]
  exact hp
theorem TapM.fc {b : Nat → Int32} {n : Nat} {P : Nat → Nat → Prop} {h h' : kx_Mem} (hp : TapM b n h) (hf : kx_Fc P h h') (h1 : ¬ P 84 6) (h2 : ∀ j, ¬ P 88 j) : TapM b n h' := ⟨(hf.2 84 6 h1).trans hp.1, hp.2.1, fun k hk => (hf.2 88 k (h2 k)).trans (hp.2.2 k hk)⟩
theorem TokM.fc {b : Nat → Int32} {n i : Nat} {P : Nat → Nat → Prop} {h h' : kx_Mem} (hp : TokM b n i h) (hf : kx_Fc P h h') (h1 : ∀ j, 7 ≤ j → j ≤ 10 → ¬ P 84 j) : TokM b n i h' := by
  unfold TokM
  rw [hf.2 84 8 (h1 8 (by decide) (by decide)), hf.2 84 9 (h1 9 (by decide) (by decide)), hf.2 84 7 (h1 7 (by decide) (by decide)), hf.2 84 10 (h1 10 (by decide) (by decide))]
  exact hp
theorem kx_Fc.fs {h h' : kx_Mem} (hf : kx_Fs h h') : kx_Fc FrD h h' := hf.mono (fun a j z => Or.inl ⟨z.1, Or.inr ⟨z.2.1, by have := z.2.2; omega⟩⟩)
theorem kx_Fc.ks {h h' : kx_Mem} (hf : kx_Fs h h') : kx_Fc FrK h h' := hf.mono (fun a j z => Or.inl ⟨z.1, Or.inr ⟨z.2.1, by have := z.2.2; omega⟩⟩)
theorem RM.scan {b : Nat → Int32} {n i : Nat} {r : RU} {fl : Nat → Prop} {nw : Nat} {T : Nat → Nat} {z : Nat} {h h' : kx_Mem} (hR : RM b n i r fl nw T z h) (hto : TokM b n (tE b n i) h') (hf : kx_Fs h h') : RM b n (tE b n i) r fl nw T z h' := by
  obtain ⟨h1, h2, h3, h4, h5, h6, h7, h8, h9, h10⟩ := hR
  exact ⟨h1.fc hf, ⟨h2.1.fc hf (by simp [FsM]) (by simp [FsM]), h2.2⟩, (tE_n h3).1, hto, h5, h6.fm hf (fun a j q1 q2 => by unfold FsM; omega), ⟨h7.1, h7.2.1.fc hf (by simp [FsM]) (by simp [FsM]), h7.2.2⟩, fun k hk => (hf.2 105 k (by simp [FsM])).trans (h8 k hk), (hf.2 84 11 (by simp [FsM])).trans h9, (hf.2 84 12 (by simp [FsM])).trans h10⟩
/-- the words have grown -/
theorem RM.wa {b : Nat → Int32} {n i : Nat} {r : RU} {fl : Nat → Prop} {nw : Nat} {T : Nat → Nat} {z : Nat} {h h' : kx_Mem} {c : Nat} (hR : RM b n i r fl nw T z h) (hn : nw < 2000) (h0 : 0 < c) (h1 : c < 2 ^ 60) (hm : WTm (waF nw T c).1 (waF nw T c).2 h') (hf : kx_Fc Fw h h') : RM b n i r fl (waF nw T c).1 (waF nw T c).2 (z + bgw c) h' := by
  obtain ⟨h1', h2, h3, h4, h5, h6, h7, h8, h9, h10⟩ := hR
  have := waF_wz (n := nw) (T := T) (c := c)
  exact ⟨h1'.fc hf, ⟨h2.1.fc hf (by simp [Fw]) (by simp [Fw]), h2.2⟩, h3, h4.fc hf (fun j a b => by unfold Fw; omega), h5, (h6.ex waF_ex).fm hf (fun a j q1 q2 => by unfold Fw; omega), ⟨waF_ok h7.1 hn h0 h1, hm, by have := h7.2.2; omega⟩, fun k hk => (hf.2 105 k (by simp [Fw])).trans (h8 k hk), (hf.2 84 11 (by simp [Fw])).trans h9, (hf.2 84 12 (by simp [Fw])).trans h10⟩
theorem kx_Fc.fw {h h' : kx_Mem} (hf : kx_Fc Fw h h') : kx_Fc FrD h h' := hf.mono (fun a j z => by unfold Fw at z; unfold FrD; omega)
theorem kx_Fc.kw {h h' : kx_Mem} (hf : kx_Fc Fw h h') : kx_Fc FrK h h' := hf.mono (fun a j z => by unfold Fw at z; unfold FrK; omega)
theorem RM.fau {b : Nat → Int32} {n i : Nat} {r : RU} {fl : Nat → Prop} {nw : Nat} {T : Nat → Nat} {z : Nat} {h : kx_Mem} (hR : RM b n i r fl nw T z h) (k : Nat) : ZF (k, tP b n i) nw T z h (kx_setI (kx_setI h 84 11 (nI k)) 84 12 ((kx_setI h 84 11 (nI k)).1 84 7)) := by
  obtain ⟨h1, h2, h3, h4, h5, h6, h7, h8, h9, h10⟩ := hR
  have hf : kx_Fc (fun a j => a = 84 ∧ 11 ≤ j ∧ j ≤ 12) h (kx_setI (kx_setI h 84 11 (nI k)) 84 12 ((kx_setI h 84 11 (nI k)).1 84 7)) := (kx_Fc.set ⟨rfl, by decide, by decide⟩).tr (kx_Fc.set ⟨rfl, by decide, by decide⟩)
  refine ⟨nw, T, ⟨?_, ?_⟩, h7.1, h7.2.1.fc hf (by omega) (fun j => ⟨by omega, by omega⟩), WEx.rf, h7.2.2, hf.mono (fun a j z => Or.inl ⟨z.1, Or.inr ⟨by omega, z.2.2⟩⟩)⟩
  · rw [setI_ne (Or.inr (by decide))]; exact setI_at
  · rw [setI_at, setI_ne (Or.inr (by decide))]; exact h4.2.2.1
theorem y_wrong {l : Launch} {g : kx_G} {d : Nat} {h : kx_Mem} (hm : SM h) (k : Int32) : kx_Sp l g m_Mo_wrong [.ref 84, .int k] h (d) 0 0 (fun v h' => v = some (.ref 87) ∧ h' = kx_setI (kx_setI h 84 11 k) 84 12 ((kx_setI h 84 11 k).1 84 7)) := by
  refine kx_enter_e (lv := [_, _]) (by decide +kernel) (Nat.le_of_ble_eq_true rfl) rfl ?_
  refine kx_aload_n (pc := 0) (kx_dd d_Mo_wrong 0 rfl) rfl rfl ?_
  refine kx_iload_n (pc := 1) (kx_dd d_Mo_wrong 1 rfl) rfl rfl ?_
  refine kx_putI (pc := 2) fl_Mo_24 (hm.k 0 rfl) (by decide) rfl rfl (kx_dd d_Mo_wrong 2 rfl) ?_
  refine kx_aload_n (pc := 5) (kx_dd d_Mo_wrong 3 rfl) rfl rfl ?_
  refine kx_aload_n (pc := 6) (kx_dd d_Mo_wrong 4 rfl) rfl rfl ?_
  refine kx_getI (pc := 7) fl_Mo_27 (hm.k 0 rfl) rfl (kx_dd d_Mo_wrong 5 rfl) ?_
  refine kx_putI (pc := 10) fl_Mo_30 (hm.k 0 rfl) (by decide) rfl rfl (kx_dd d_Mo_wrong 6 rfl) ?_
  refine kx_aload_n (pc := 13) (kx_dd d_Mo_wrong 7 rfl) rfl rfl ?_
  refine kx_getR (pc := 14) (b := 87) fl_Mo_33 (hm.k 0 rfl) rfl (hm.r 2 rfl) (kx_dd d_Mo_wrong 8 rfl) ?_
  refine kx_aret (pc := 17) (r := some (87)) rfl (Or.inl ⟨_, rfl⟩) (kx_dd d_Mo_wrong 9 rfl) (Nat.le_refl _) (Nat.le_refl _) ?_
  exact ⟨rfl, rfl⟩
theorem y_number {l : Launch} {g : kx_G} {d : Nat} {h : kx_Mem} (b : Nat → Int32) (n i : Nat) (r : RU) (fl : Nat → Prop) (nw : Nat) (T : Nat → Nat) (z : Nat) (hR : RM b n i r fl nw T z h) (lo hi : Nat) (hlo : lo < 2 ^ 31) (hhi : hi < 2 ^ 31) : kt_Sp l g m_Mo_number [.ref 84, .int (nI lo), .int (nI hi)] h (d + 2) 0 0 (fun v h' => ∃ q, numF b n i lo hi = .inr q ∧ v = some (.int (nI q.1)) ∧ RM b n q.2 r fl nw T z h' ∧ kx_Fs h h') (fun h' => ∃ f, numF b n i lo hi = .inl f ∧ ZF f nw T z h h') := by
  have hm := hR.1
  have hin := hR.2.2.1
  have hki := tK_le (b := b) (n := n) (i := i)
  obtain ⟨k1, k2, k3, k4⟩ := id hR.2.2.2.1
  have ho := hR.2.2.2.2.1
  have o16 := ho.1
  have hn6 := hR.2.1.1.2.1
  refine kt_enter (lv := [_, _, _, _]) (by decide +kernel) (Nat.le_of_ble_eq_true rfl) rfl ?_
  refine kt_aload_n (pc := 0) (kx_dd d_Mo_number 0 rfl) rfl rfl ?_
  refine kt_getI (pc := 1) fl_Mo_50 (hm.k 0 rfl) rfl (kx_dd d_Mo_number 1 rfl) ?_
  refine kt_iconst (pc := 4) (v := 2) (kx_dd d_Mo_number 2 rfl) rfl ?_
  refine kt_icmp_eq (pc := 5) (tgt := 14) (kx_dd d_Mo_number 3 rfl) rfl (fun c5 => ?_) (fun c5 => ?_)
  · refine kt_aload_n (pc := 14) (kx_dd d_Mo_number 8 rfl) rfl rfl ?_
    refine kt_getI (pc := 15) fl_Mo_60 (hm.k 0 rfl) rfl (kx_dd d_Mo_number 9 rfl) ?_
    refine kt_i2l (pc := 18) (kx_dd d_Mo_number 10 rfl) ?_
    refine kt_iload_n (pc := 19) (kx_dd d_Mo_number 11 rfl) rfl rfl ?_
    refine kt_i2l (pc := 20) (kx_dd d_Mo_number 12 rfl) ?_
    refine kt_iload_n (pc := 21) (kx_dd d_Mo_number 13 rfl) rfl rfl ?_
    refine kt_i2l (pc := 22) (kx_dd d_Mo_number 14 rfl) ?_
    refine kt_invS (pc := 23) (as := [_, _, _]) (kx_dd d_Mo_number 15 rfl) ⟨lk_Mo_5, wt_Mo_in⟩ w_Mo_in rfl rfl (Nat.le_of_ble_eq_true rfl) (y_in (d := d + 1) _ _ _) (Nat.le_refl _) ⟨Nat.le_refl _, Nat.le_refl _⟩ (fun v h' hq => ?_)
    obtain ⟨rfl, he⟩ := hq
    rw [he]
    clear he
    refine kt_if_ne (pc := 26) (tgt := 35) (kx_dd d_Mo_number 16 rfl) rfl (fun c26 => ?_) (fun c26 => ?_)
    · refine kt_aload_n (pc := 35) (kx_dd d_Mo_number 21 rfl) rfl rfl ?_
      refine kt_getI (pc := 36) fl_Mo_60 (hm.k 0 rfl) rfl (kx_dd d_Mo_number 22 rfl) ?_
      refine kt_istore_ne (pc := 39) (lv' := [_, _, _, _]) (kx_dd d_Mo_number 23 rfl) rfl (Nat.le_of_ble_eq_true rfl) rfl ?_
      refine kt_aload_n (pc := 40) (kx_dd d_Mo_number 24 rfl) rfl rfl ?_
      refine kt_invV (pc := 41) (a := 84) (as := []) (kx_dd d_Mo_number 25 rfl) ⟨lk_Mo_77, wi_Mo_scan, we_Mo_scan⟩ w_Mo_scan (hm.k 0 rfl) rfl rfl rfl rfl (Nat.le_of_ble_eq_true rfl) (y_scan (d := d) hR.1 b n (tE b n i) hR.2.1.1 hR.2.1.2 (tE_n hR.2.2.1).1 hR.2.2.2.1.1) (Nat.le_refl _) ⟨Nat.le_refl _, Nat.le_refl _⟩ (fun v h' hq => ?_)
      revert h'
      intro h1 hq
      obtain ⟨rfl, hts9, hfs9⟩ := hq
      have hR1 := hR.scan hts9 hfs9
      have hF1 : kx_Fc FrD h h1 := kx_Fc.fs hfs9
      have hm := hR1.1
      refine kt_iload_n (pc := 44) (kx_dd d_Mo_number 26 rfl) rfl rfl ?_
      refine kt_ofX (kx_iret (pc := 45) rfl (kx_dd d_Mo_number 27 rfl) (Nat.le_refl _) (Nat.le_refl _) ?_)
      rw [k2, show (2 : Int32) = nI 2 from rfl, nI_eq (by omega) (by decide)] at c5
      have hv := tV_lt hin c5
      rw [k4 c5, bP_0] at c26
      rw [nI_l (by omega), nI_l (by omega), nI_l (by omega), pk_lLE (by omega) (by omega), pk_lLE (by omega) (by omega)] at c26
      rw [Classical.not_not] at c26
      exact ⟨(tV b n i, tE b n i), (if_pos c5).trans (if_pos c26), by rw [k4 c5], hR1, hfs9⟩
    · refine kt_aload_n (pc := 29) (kx_dd d_Mo_number 17 rfl) rfl rfl ?_
      refine kt_iconst (pc := 30) (v := 2) (kx_dd d_Mo_number 18 rfl) rfl ?_
      refine kt_invV (pc := 31) (a := 84) (as := [_]) (kx_dd d_Mo_number 19 rfl) ⟨lk_Mo_73, wi_Mo_wrong, we_Mo_wrong⟩ w_Mo_wrong (hm.k 0 rfl) rfl rfl rfl rfl (Nat.le_of_ble_eq_true rfl) (y_wrong (d := d + 1) hm (nI 2)) (Nat.le_refl _) ⟨Nat.le_refl _, Nat.le_refl _⟩ (fun v h' hq => ?_)
      revert h'
      intro h9 hq
      obtain ⟨rfl, rfl⟩ := hq
      refine kt_athrow (kx_dd d_Mo_number 20 rfl) rfl (Nat.le_refl _) (Nat.le_refl _) ?_
      rw [k2, show (2 : Int32) = nI 2 from rfl, nI_eq (by omega) (by decide)] at c5
      have hv := tV_lt hin c5
      rw [k4 c5, bP_0] at c26
      rw [nI_l (by omega), nI_l (by omega), nI_l (by omega), pk_lLE (by omega) (by omega), pk_lLE (by omega) (by omega)] at c26
      exact ⟨_, (show numF b n i lo hi = .inl (2, tP b n i) from (if_pos c5).trans (if_neg c26)), hR.fau 2⟩
  · refine kt_aload_n (pc := 8) (kx_dd d_Mo_number 4 rfl) rfl rfl ?_
    refine kt_iconst (pc := 9) (v := 1) (kx_dd d_Mo_number 5 rfl) rfl ?_
    refine kt_invV (pc := 10) (a := 84) (as := [_]) (kx_dd d_Mo_number 6 rfl) ⟨lk_Mo_73, wi_Mo_wrong, we_Mo_wrong⟩ w_Mo_wrong (hm.k 0 rfl) rfl rfl rfl rfl (Nat.le_of_ble_eq_true rfl) (y_wrong (d := d + 1) hm (nI 1)) (Nat.le_refl _) ⟨Nat.le_refl _, Nat.le_refl _⟩ (fun v h' hq => ?_)
    revert h'
    intro h9 hq
    obtain ⟨rfl, rfl⟩ := hq
    refine kt_athrow (kx_dd d_Mo_number 7 rfl) rfl (Nat.le_refl _) (Nat.le_refl _) ?_
    rw [k2, show (2 : Int32) = nI 2 from rfl, nI_eq (by omega) (by decide)] at c5
    exact ⟨_, (show numF b n i lo hi = .inl (1, tP b n i) from if_neg c5), hR.fau 1⟩
theorem RM.nw {b : Nat → Int32} {n i : Nat} {r : RU} {fl : Nat → Prop} {nw : Nat} {T : Nat → Nat} {z : Nat} {h : kx_Mem} (hR : RM b n i r fl nw T z h) (hz : z < 1960) : nw < 2000 := by
  have := wz_cap hR.2.2.2.2.2.2.1.1
  have := hR.2.2.2.2.2.2.1.2.2
  omega
theorem y_wordTok {l : Launch} {g : kx_G} {d : Nat} {h : kx_Mem} (b : Nat → Int32) (n i : Nat) (r : RU) (fl : Nat → Prop) (nw : Nat) (T : Nat → Nat) (z : Nat) (hR : RM b n i r fl nw T z h) (hz : z < 1960) (c : tK b n i = 1) : kx_Sp l g m_Mo_wordOf [.ref 84, .int (nI (tP b n i)), .int (nI (tE b n i))] h d 0 0 (fun v h' => ∃ j, v = some (.int (nI j)) ∧ j < (waF nw T (tW b n i)).1 ∧ (waF nw T (tW b n i)).2 j = tW b n i ∧ WTm (waF nw T (tW b n i)).1 (waF nw T (tW b n i)).2 h' ∧ kx_Fc Fw h h') := by
  have h1 := tK1 hR.2.2.1 c
  have k := y_wordOf (l := l) (g := g) (d := d) hR.1 b n hR.2.1.1 hR.2.1.2 nw T hR.2.2.2.2.2.2.1.1 hR.2.2.2.2.2.2.1.2.1 (hR.nw hz) (tP b n i) (tE b n i - tP b n i) (by omega) h1.2.2.1 (by omega) h1.2.2.2.1
  rw [show tP b n i + (tE b n i - tP b n i) = tE b n i by omega] at k
  exact k
theorem y_word {l : Launch} {g : kx_G} {d : Nat} {h : kx_Mem} (b : Nat → Int32) (n i : Nat) (r : RU) (fl : Nat → Prop) (nw : Nat) (T : Nat → Nat) (z : Nat) (hR : RM b n i r fl nw T z h) (hz9 : z < 1960) : kt_Sp l g m_Mo_word [.ref 84] h (d + 2) 0 0 (fun v h' => ∃ j, tK b n i = 1 ∧ v = some (.int (nI j)) ∧ j < (waF nw T (tW b n i)).1 ∧ (waF nw T (tW b n i)).2 j = tW b n i ∧ RM b n (tE b n i) r fl (waF nw T (tW b n i)).1 (waF nw T (tW b n i)).2 (z + bgw (tW b n i)) h' ∧ kx_Fc FrD h h') (fun h' => ∃ f, tK b n i ≠ 1 ∧ f = (1, tP b n i) ∧ ZF f nw T z h h') := by
  have hm := hR.1
  have hin := hR.2.2.1
  have hki := tK_le (b := b) (n := n) (i := i)
  obtain ⟨k1, k2, k3, k4⟩ := id hR.2.2.2.1
  have ho := hR.2.2.2.2.1
  have o16 := ho.1
  have hn6 := hR.2.1.1.2.1
  refine kt_enter (lv := [_, _]) (by decide +kernel) (Nat.le_of_ble_eq_true rfl) rfl ?_
  refine kt_aload_n (pc := 0) (kx_dd d_Mo_word 0 rfl) rfl rfl ?_
  refine kt_getI (pc := 1) fl_Mo_50 (hm.k 0 rfl) rfl (kx_dd d_Mo_word 1 rfl) ?_
  refine kt_iconst (pc := 4) (v := 1) (kx_dd d_Mo_word 2 rfl) rfl ?_
  refine kt_icmp_eq (pc := 5) (tgt := 14) (kx_dd d_Mo_word 3 rfl) rfl (fun c5 => ?_) (fun c5 => ?_)
  · rw [k2, show (1 : Int32) = nI 1 from rfl, nI_eq (by omega) (by decide)] at c5
    refine kt_aload_n (pc := 14) (kx_dd d_Mo_word 8 rfl) rfl rfl ?_
    refine kt_aload_n (pc := 15) (kx_dd d_Mo_word 9 rfl) rfl rfl ?_
    refine kt_getI (pc := 16) fl_Mo_27 (hm.k 0 rfl) rfl (kx_dd d_Mo_word 10 rfl) ?_
    refine kt_aload_n (pc := 19) (kx_dd d_Mo_word 11 rfl) rfl rfl ?_
    refine kt_getI (pc := 20) fl_Mo_43 (hm.k 0 rfl) rfl (kx_dd d_Mo_word 12 rfl) ?_
    refine kt_invV (pc := 23) (a := 84) (as := [_, _]) (kx_dd d_Mo_word 13 rfl) ⟨lk_Mo_81, wi_Mo_wordOf, we_Mo_wordOf⟩ w_Mo_wordOf (hm.k 0 rfl) rfl rfl rfl rfl (Nat.le_of_ble_eq_true rfl) ((by rw [k3, k1]; exact y_wordTok (d := d + 1) b n i _ _ nw T z hR hz9 c5)) (Nat.le_refl _) ⟨Nat.le_refl _, Nat.le_refl _⟩ (fun v h' hq => ?_)
    revert h'
    intro h1 hq
    obtain ⟨j9, rfl, hj1, hj2, hwm, hfw⟩ := hq
    have hwl := tW_lt hR.2.2.1 c5
    have hR1 := hR.wa (c := tW b n i) (hR.nw hz9) hwl.1 hwl.2 hwm hfw
    have hF1 : kx_Fc FrD h h1 := kx_Fc.fw hfw
    have hm := hR1.1
    refine kt_istore_ne (pc := 26) (lv' := [_, _]) (kx_dd d_Mo_word 14 rfl) rfl (Nat.le_of_ble_eq_true rfl) rfl ?_
    refine kt_aload_n (pc := 27) (kx_dd d_Mo_word 15 rfl) rfl rfl ?_
    refine kt_invV (pc := 28) (a := 84) (as := []) (kx_dd d_Mo_word 16 rfl) ⟨lk_Mo_77, wi_Mo_scan, we_Mo_scan⟩ w_Mo_scan (hm.k 0 rfl) rfl rfl rfl rfl (Nat.le_of_ble_eq_true rfl) (y_scan (d := d) hR1.1 b n (tE b n i) hR1.2.1.1 hR1.2.1.2 (tE_n hR1.2.2.1).1 hR1.2.2.2.1.1) (Nat.le_refl _) ⟨Nat.le_refl _, Nat.le_refl _⟩ (fun v h' hq => ?_)
    revert h'
    intro h2 hq
    obtain ⟨rfl, hts9, hfs9⟩ := hq
    have hR2 := hR1.scan hts9 hfs9
    have hF2 : kx_Fc FrD h1 h2 := kx_Fc.fs hfs9
    have hm := hR2.1
    refine kt_iload_n (pc := 31) (kx_dd d_Mo_word 17 rfl) rfl rfl ?_
    refine kt_ofX (kx_iret (pc := 32) rfl (kx_dd d_Mo_word 18 rfl) (Nat.le_refl _) (Nat.le_refl _) ?_)
    exact ⟨j9, c5, rfl, hj1, hj2, hR2, hF1.tr hF2⟩
  · refine kt_aload_n (pc := 8) (kx_dd d_Mo_word 4 rfl) rfl rfl ?_
    refine kt_iconst (pc := 9) (v := 1) (kx_dd d_Mo_word 5 rfl) rfl ?_
    refine kt_invV (pc := 10) (a := 84) (as := [_]) (kx_dd d_Mo_word 6 rfl) ⟨lk_Mo_73, wi_Mo_wrong, we_Mo_wrong⟩ w_Mo_wrong (hm.k 0 rfl) rfl rfl rfl rfl (Nat.le_of_ble_eq_true rfl) (y_wrong (d := d + 1) hm (nI 1)) (Nat.le_refl _) ⟨Nat.le_refl _, Nat.le_refl _⟩ (fun v h' hq => ?_)
    revert h'
    intro h9 hq
    obtain ⟨rfl, rfl⟩ := hq
    refine kt_athrow (kx_dd d_Mo_word 7 rfl) rfl (Nat.le_refl _) (Nat.le_refl _) ?_
    rw [k2, show (1 : Int32) = nI 1 from rfl, nI_eq (by omega) (by decide)] at c5
    exact ⟨_, c5, rfl, hR.fau 1⟩
