/-! MY LAYER: a typed memory beside the machine's heap; a judgement kx_X over it that hides the machine; one row an instruction -/
/-- ints, longs, references by object and place; of each object its kind and length; how many objects there are -/
abbrev kx_Mem : Type := (Nat → Nat → Int32) × (Nat → Nat → Int64) × (Nat → Nat → Option Nat) × (Nat → Nat × Nat) × Nat
/-- numbers and slots of the classes, numbers of the array classes by kind, the heap's size at the law's start, addresses of what was there before -/
abbrev kx_G : Type := va_G × (Nat → ClassId) × Nat × (Nat → Nat) × Heap
def kx_ad (g : kx_G) (a : Nat) : Nat := if a < 1000000 then g.2.2.1 + a else g.2.2.2.1 a
def kx_cv (g : kx_G) (v : Value) : Value := match v with
  | .ref a => .ref (kx_ad g a)
  | v => v
theorem kx_cv_cat (g : kx_G) (v : Value) : (kx_cv g v).category = v.category := by cases v <;> rfl
def kx_rf (r : Option Nat) : Value := match r with
  | none => .null
  | some a => .ref a
theorem kx_cv_rf (g : kx_G) (r : Option Nat) : kx_cv g (kx_rf r) = va_rf (r.map (kx_ad g)) := by cases r <;> rfl
/-- what stands at a place, by its type: in the memory's own words -/
def kx_mv (h : kx_Mem) (ty : FieldType) (a j : Nat) : Value := match ty with
  | .long => .long (h.2.1 a j)
  | .object _ => kx_rf (h.2.2.1 a j)
  | .array _ => kx_rf (h.2.2.1 a j)
  | _ => .int (h.1 a j)
def kx_ak (k : Nat) : FieldType := if k = 50 then .int else if k = 51 then .long else if k = 52 then .byte else if k = 53 then .boolean else if k = 54 then .object "java/lang/Object" else if k = 55 then .object "TreatyClaims$Rules" else .array .int
def kx_at (g : kx_G) (h : kx_Mem) (H : Heap) (a : Nat) : Prop :=
  (∀ (ci : Nat) (r : vw_C), (h.2.2.2.1 a).1 = ci + 1 → kx_cl[ci]? = some r → t_OB (kx_ad g a) (g.1.1 ci) r.2.2 (g.1.2 ci) H (fun j => kx_cv g (kx_mv h (kx_ty ci j) a j))) ∧
  (50 ≤ (h.2.2.2.1 a).1 → H[kx_ad g a]? = some (arrV (g.2.1 (h.2.2.2.1 a).1) (h.2.2.2.1 a).2 (fun j => kx_cv g (kx_mv h (kx_ak (h.2.2.2.1 a).1) a j))))
def kx_Rel (g : kx_G) (h : kx_Mem) (H : Heap) : Prop :=
  H.size = g.2.2.1 + h.2.2.2.2 ∧ h.2.2.2.2 ≤ 1000000 ∧ ((∀ a, (h.2.2.2.1 a).1 ≠ 0 → a < 1000000) ∧ ∀ q : Nat, q < g.2.2.1 → H[q]? = g.2.2.2.2[q]?) ∧ (∀ a, (h.2.2.2.1 a).1 ≠ 0 → a < h.2.2.2.2 ∨ 1000000 ≤ a) ∧ ∀ a, kx_at g h H a
/-- what was there ahead of the law, and its numbers in the memory -/
def kx_olds : List (Jvm.Term × Nat) := [(Jvm.Term.string "TreatyClaims$RulesReader" 46, 1000000), (Jvm.Term.string "TreatyClaims$RulesReader" 86, 1000001), (Jvm.Term.string "TreatyClaims$RulesReader" 92, 1000002), (Jvm.Term.string "TreatyClaims$RulesReader" 94, 1000003), (Jvm.Term.string "TreatyClaims$RulesReader" 122, 1000004), (Jvm.Term.string "TreatyClaimsModel" 116, 1000005), (Jvm.Term.string "TreatyClaimsModel" 122, 1000006), (Jvm.Term.string "TreatyClaimsModel" 124, 1000007), (Jvm.Term.string "TreatyClaimsModel" 126, 1000008), (Jvm.Term.string "TreatyClaimsModel" 127, 1000009), (Jvm.Term.string "TreatyClaimsModel" 129, 1000010), (Jvm.Term.string "TreatyClaimsModel" 131, 1000011), (Jvm.Term.string "TreatyClaimsModel" 133, 1000012), (Jvm.Term.string "TreatyClaimsModel" 135, 1000013), (Jvm.Term.string "TreatyClaimsModel" 137, 1000014), (Jvm.Term.string "TreatyClaimsModel" 165, 1000015), (Jvm.Term.string "TreatyClaimsModel" 167, 1000016), (Jvm.Term.string "TreatyClaimsModel" 169, 1000017), (Jvm.Term.string "TreatyClaimsModel" 171, 1000018), (Jvm.Term.string "TreatyClaimsModel" 185, 1000019), (Jvm.Term.string "TreatyClaimsModel" 187, 1000020), (Jvm.Term.string "TreatyClaimsModel" 189, 1000021), (Jvm.Term.string "TreatyClaimsModel" 191, 1000022), (Jvm.Term.string "TreatyClaimsModel" 179, 1000023), (Jvm.Term.string "TreatyClaimsModel" 181, 1000024), (Jvm.Term.string "TreatyClaimsModel" 183, 1000025), (Jvm.Term.string "TreatyClaimsModel" 199, 1000026), (Jvm.Term.string "TreatyClaimsModel" 204, 1000027), (Jvm.Term.string "TreatyClaimsModel" 212, 1000028), (Jvm.Term.string "TreatyClaimsModel" 223, 1000029), (Jvm.Term.field (Jvm.Term.string "TreatyClaims$RulesReader" 46) "java/lang/String" "value" "[B", 1000100), (Jvm.Term.field (Jvm.Term.string "TreatyClaims$RulesReader" 86) "java/lang/String" "value" "[B", 1000101), (Jvm.Term.field (Jvm.Term.string "TreatyClaims$RulesReader" 92) "java/lang/String" "value" "[B", 1000102), (Jvm.Term.field (Jvm.Term.string "TreatyClaims$RulesReader" 94) "java/lang/String" "value" "[B", 1000103), (Jvm.Term.field (Jvm.Term.string "TreatyClaims$RulesReader" 122) "java/lang/String" "value" "[B", 1000104), (Jvm.Term.field (Jvm.Term.string "TreatyClaimsModel" 116) "java/lang/String" "value" "[B", 1000105), (Jvm.Term.field (Jvm.Term.string "TreatyClaimsModel" 122) "java/lang/String" "value" "[B", 1000106), (Jvm.Term.field (Jvm.Term.string "TreatyClaimsModel" 124) "java/lang/String" "value" "[B", 1000107), (Jvm.Term.field (Jvm.Term.string "TreatyClaimsModel" 126) "java/lang/String" "value" "[B", 1000108), (Jvm.Term.field (Jvm.Term.string "TreatyClaimsModel" 127) "java/lang/String" "value" "[B", 1000109), (Jvm.Term.field (Jvm.Term.string "TreatyClaimsModel" 129) "java/lang/String" "value" "[B", 1000110), (Jvm.Term.field (Jvm.Term.string "TreatyClaimsModel" 131) "java/lang/String" "value" "[B", 1000111), (Jvm.Term.field (Jvm.Term.string "TreatyClaimsModel" 133) "java/lang/String" "value" "[B", 1000112), (Jvm.Term.field (Jvm.Term.string "TreatyClaimsModel" 135) "java/lang/String" "value" "[B", 1000113), (Jvm.Term.field (Jvm.Term.string "TreatyClaimsModel" 137) "java/lang/String" "value" "[B", 1000114), (Jvm.Term.field (Jvm.Term.string "TreatyClaimsModel" 165) "java/lang/String" "value" "[B", 1000115), (Jvm.Term.field (Jvm.Term.string "TreatyClaimsModel" 167) "java/lang/String" "value" "[B", 1000116), (Jvm.Term.field (Jvm.Term.string "TreatyClaimsModel" 169) "java/lang/String" "value" "[B", 1000117), (Jvm.Term.field (Jvm.Term.string "TreatyClaimsModel" 171) "java/lang/String" "value" "[B", 1000118), (Jvm.Term.field (Jvm.Term.string "TreatyClaimsModel" 185) "java/lang/String" "value" "[B", 1000119), (Jvm.Term.field (Jvm.Term.string "TreatyClaimsModel" 187) "java/lang/String" "value" "[B", 1000120), (Jvm.Term.field (Jvm.Term.string "TreatyClaimsModel" 189) "java/lang/String" "value" "[B", 1000121), (Jvm.Term.field (Jvm.Term.string "TreatyClaimsModel" 191) "java/lang/String" "value" "[B", 1000122), (Jvm.Term.field (Jvm.Term.string "TreatyClaimsModel" 179) "java/lang/String" "value" "[B", 1000123), (Jvm.Term.field (Jvm.Term.string "TreatyClaimsModel" 181) "java/lang/String" "value" "[B", 1000124), (Jvm.Term.field (Jvm.Term.string "TreatyClaimsModel" 183) "java/lang/String" "value" "[B", 1000125), (Jvm.Term.field (Jvm.Term.string "TreatyClaimsModel" 199) "java/lang/String" "value" "[B", 1000126), (Jvm.Term.field (Jvm.Term.string "TreatyClaimsModel" 204) "java/lang/String" "value" "[B", 1000127), (Jvm.Term.field (Jvm.Term.string "TreatyClaimsModel" 212) "java/lang/String" "value" "[B", 1000128), (Jvm.Term.field (Jvm.Term.string "TreatyClaimsModel" 223) "java/lang/String" "value" "[B", 1000129), (Jvm.Term.static "java/util/ArrayList" "DEFAULTCAPACITY_EMPTY_ELEMENTDATA" "[Ljava/lang/Object;", 1000201)]
/-- what may be null -/
def kx_olds2 : List (Jvm.Term × Nat) := [(Jvm.Term.static "jdk/internal/util/Preconditions" "SIOOBE_FORMATTER" "Ljava/util/function/BiFunction;", 1000200), (Jvm.Term.static "java/lang/Throwable" "SUPPRESSED_SENTINEL" "Ljava/util/List;", 1000203), (Jvm.Term.static "java/lang/Throwable" "UNASSIGNED_STACK" "[Ljava/lang/StackTraceElement;", 1000204), (Jvm.Term.mirror "[Ljava/lang/Object;", 1000202)]
/-- the law began at some s0, whose heap is known, and the tables are warmer since -/
def kx_E (g : kx_G) (U : State) : Prop := ∃ (s0 : State) (b : Addr), s0.heap = g.2.2.2.2 ∧ s0.heap.size = g.2.2.1 ∧ s0.WarmedH U.vm ∧ (Jvm.Cond.and given_1 narrow_1).before #[Value.ref b] s0 = true ∧ (∀ w ∈ lw_tbl, w.before #[Value.ref b] s0 = true) ∧ (∀ q ∈ kx_olds, q.1.eval #[Value.ref b] s0 none [] s0 = some (.ref (g.2.2.2.1 q.2))) ∧ ∀ q ∈ kx_olds2, q.1.eval #[Value.ref b] s0 none [] s0 = some .null ∨ q.1.eval #[Value.ref b] s0 none [] s0 = some (.ref (g.2.2.2.1 q.2))
def kx_K (g : kx_G) (U : State) : Prop := va_K g.1 kx_cl [] U ∧ (∀ k, 50 ≤ k → k < 57 → ArrOfT U (g.2.1 k) (kx_ak k) ∧ va_RA U (g.2.1 k) (kx_ak k)) ∧ (∀ w ∈ kx_nw, va_Nw w U) ∧ kx_E g U
theorem kx_nw_kind : ∀ w ∈ kx_nw, (∃ a i b n d h, w = Cond.fieldLinkNest a i b n d h) ∨ (∃ a i x h, w = Cond.methodLinkNest a i x h) ∨ ∃ C T, w = Cond.castable C T := by
  have h : kx_nw.all (fun w => match w with | .fieldLinkNest .. => true | .methodLinkNest .. => true | .castable .. => true | _ => false) = true := by decide +kernel
  intro w hw
  have := List.all_eq_true.mp h w hw
  cases w <;> simp at this ⊢
theorem kx_K.warm {g : kx_G} {s U : State} (hW : s.WarmedH U.vm) (h : kx_K g s) : kx_K g U := by
  obtain ⟨h1, h2, h3, s0, b, e1, e2, e3, e4⟩ := h
  refine ⟨h1.moved hW.alike, fun k a b => ⟨arrOfT_moved hW.alike (h2 k a b).1, (h2 k a b).2.moved hW.alike⟩, fun w hw => ?_, s0, b, e1, e2, State.WarmedH.trans e3 hW, e4⟩
  have h4 := h3 w hw
  rcases kx_nw_kind w hw with ⟨a, i, b, n, d, h, rfl⟩ | ⟨a, i, x, h, rfl⟩ | ⟨C, T, rfl⟩
  · exact va_Nw.warmF hW h4
  · exact va_Nw.warmM hW h4
  · exact va_Nw.warmC hW h4
/-! locals by place -/
def kx_clr (lv : List (Option Value)) (i : Nat) : List (Option Value) := match i with
  | 0 => lv
  | k + 1 => match lv[k]? with
    | some (some w) => if w.category = 2 then lv.set k none else lv
    | _ => lv
def kx_s1 (lv : List (Option Value)) (i : Nat) (v : Value) : List (Option Value) := (kx_clr lv i).set i (some v)
def kx_s2 (lv : List (Option Value)) (i : Nat) (v : Value) : List (Option Value) := ((kx_clr lv i).set i (some v)).set (i + 1) none
def kx_l (g : kx_G) (lv : List (Option Value)) : List (Nat × Value) := (List.range lv.length).filterMap (fun i => match lv[i]? with
  | some (some v) => some (i, kx_cv g v)
  | _ => none)
theorem kx_l_mem {g : kx_G} {lv : List (Option Value)} {i : Nat} {w : Value} : (i, w) ∈ kx_l g lv ↔ ∃ v, lv[i]? = some (some v) ∧ w = kx_cv g v := by
  unfold kx_l
  rw [List.mem_filterMap]
  constructor
  · rintro ⟨j, hj, h⟩
    split at h
    next v hv =>
      simp only [Option.some.injEq, Prod.mk.injEq] at h
      obtain ⟨rfl, rfl⟩ := h
      exact ⟨v, hv, rfl⟩
    next => cases h
  · rintro ⟨v, hv, rfl⟩
    refine ⟨i, ?_, by rw [hv]⟩
    rw [List.mem_range]
    exact (List.getElem?_eq_some_iff.mp hv).1
theorem kx_clr_get {lv : List (Option Value)} {i j : Nat} {u : Value} (h : (kx_clr lv i)[j]? = some (some u)) : lv[j]? = some (some u) ∧ ¬ (j + 1 = i ∧ u.category = 2) := by
  unfold kx_clr at h
  split at h
  next => exact ⟨h, by omega⟩
  next k =>
    split at h
    next w hw =>
      split at h
      next hc =>
        by_cases hj : j = k
        · subst hj
          rw [List.getElem?_set] at h
          simp at h
        · rw [List.getElem?_set_ne (Ne.symm hj)] at h
          exact ⟨h, by omega⟩
      next hc =>
        refine ⟨h, fun q => ?_⟩
        obtain ⟨q1, q2⟩ := q
        have : j = k := by omega
        subst this
        rw [hw] at h
        cases h
        exact hc q2
    next hn =>
      refine ⟨h, fun q => ?_⟩
      obtain ⟨q1, q2⟩ := q
      have : j = k := by omega
      subst this
      exact hn _ h
abbrev kx_has (g : kx_G) (ls : Array Slot) (n : Nat) (lv : List (Option Value)) : Prop := lv_has ls n (kx_l g lv)
theorem kx_has.at {g : kx_G} {ls : Array Slot} {n : Nat} {lv : List (Option Value)} (h : kx_has g ls n lv) {i : Nat} {v : Value} (hv : lv[i]? = some (some v)) : ls[i]? = some (.val (kx_cv g v)) := h.2.2 (i, kx_cv g v) (kx_l_mem.mpr ⟨v, hv, rfl⟩)
theorem kx_has.st1 {g : kx_G} {ls : Array Slot} {n : Nat} {lv : List (Option Value)} {i : Nat} {v : Value} (h : lv_has ls n ((i, kx_cv g v) :: (kx_l g lv).filter (fun q => !(q.1 == i) && !(q.1 + 1 == i && q.2.category == 2)))) : kx_has g ls n (kx_s1 lv i v) := by
  refine ⟨h.1, h.2.1, fun q hq => h.2.2 q ?_⟩
  obtain ⟨j, w⟩ := q
  obtain ⟨u, hu, rfl⟩ := kx_l_mem.mp hq
  unfold kx_s1 at hu
  by_cases hj : j = i
  · subst hj
    rw [List.getElem?_set] at hu
    simp only [if_true] at hu
    split at hu
    · cases hu
      exact List.mem_cons_self
    · cases hu
  · rw [List.getElem?_set_ne (Ne.symm hj)] at hu
    obtain ⟨h1, h2⟩ := kx_clr_get hu
    refine List.mem_cons_of_mem _ (List.mem_filter.mpr ⟨kx_l_mem.mpr ⟨u, h1, rfl⟩, ?_⟩)
    simp only [kx_cv_cat, Bool.and_eq_true, Bool.not_eq_true', beq_eq_false_iff_ne, ne_eq, Bool.and_eq_false_iff]
    refine ⟨hj, ?_⟩
    by_cases h3 : j + 1 = i
    · exact Or.inr (fun q => h2 ⟨h3, q⟩)
    · exact Or.inl h3
theorem kx_has.st2 {g : kx_G} {ls : Array Slot} {n : Nat} {lv : List (Option Value)} {i : Nat} {v : Value} (h : lv_has ls n ((i, kx_cv g v) :: (kx_l g lv).filter (fun q => !(q.1 == i) && (!(q.1 == i + 1) && !(q.1 + 1 == i && q.2.category == 2))))) : kx_has g ls n (kx_s2 lv i v) := by
  refine ⟨h.1, h.2.1, fun q hq => h.2.2 q ?_⟩
  obtain ⟨j, w⟩ := q
  obtain ⟨u, hu, rfl⟩ := kx_l_mem.mp hq
  unfold kx_s2 at hu
  by_cases hj1 : j = i + 1
  · subst hj1
    rw [List.getElem?_set] at hu
    simp at hu
  · rw [List.getElem?_set_ne (Ne.symm hj1)] at hu
    by_cases hj : j = i
    · subst hj
      rw [List.getElem?_set] at hu
      simp only [if_true] at hu
      split at hu
      · cases hu
        exact List.mem_cons_self
      · cases hu
    · rw [List.getElem?_set_ne (Ne.symm hj)] at hu
      obtain ⟨h1, h2⟩ := kx_clr_get hu
      refine List.mem_cons_of_mem _ (List.mem_filter.mpr ⟨kx_l_mem.mpr ⟨u, h1, rfl⟩, ?_⟩)
      simp only [kx_cv_cat, Bool.and_eq_true, Bool.not_eq_true', beq_eq_false_iff_ne, ne_eq, Bool.and_eq_false_iff]
      refine ⟨hj, hj1, ?_⟩
      by_cases h3 : j + 1 = i
      · exact Or.inr (fun q => h2 ⟨h3, q⟩)
      · exact Or.inl h3
def kx_arg (vs : List Value) : List (Option Value) := match vs with
  | [] => []
  | v :: vs => if v.category = 2 then some v :: none :: kx_arg vs else some v :: kx_arg vs
def kx_ent (n : Nat) (vs : List Value) : List (Option Value) := kx_arg vs ++ List.replicate (n - (kx_arg vs).length) none
theorem kx_arg_len (g : kx_G) (vs : List Value) : (lg_sl (vs.map (kx_cv g))).length = (kx_arg vs).length := by
  induction vs with
  | nil => rfl
  | cons v vs ih =>
    unfold lg_sl at ih ⊢
    simp only [List.map_cons, List.flatMap_cons, List.length_append, kx_cv_cat, ih, kx_arg]
    split <;> simp <;> omega
theorem kx_arg_get (g : kx_G) : ∀ (vs : List Value) (b i : Nat) (v : Value), (kx_arg vs)[i]? = some (some v) → (b + i, kx_cv g v) ∈ lv_args b (vs.map (kx_cv g))
  | [], b, i, v, h => by simp [kx_arg] at h
  | w :: vs, b, i, v, h => by
    unfold kx_arg at h
    simp only [List.map_cons, lv_args, kx_cv_cat]
    split at h
    next hc =>
      rw [if_pos hc]
      match i, h with
      | 0, h => cases h; exact List.mem_cons_self
      | 1, h => simp at h
      | k + 2, h =>
        refine List.mem_cons_of_mem _ ?_
        have := kx_arg_get g vs (b + 2) k v (by simpa using h)
        rwa [show b + 2 + k = b + (k + 2) by omega] at this
    next hc =>
      rw [if_neg hc]
      match i, h with
      | 0, h => cases h; exact List.mem_cons_self
      | k + 1, h =>
        refine List.mem_cons_of_mem _ ?_
        have := kx_arg_get g vs (b + 1) k v (by simpa using h)
        rwa [show b + 1 + k = b + (k + 1) by omega] at this
theorem kx_entry (g : kx_G) (vs : List Value) {n : Nat} (h : (kx_arg vs).length ≤ n) : kx_has g ((lg_sl (vs.map (kx_cv g)) ++ List.replicate (n - (lg_sl (vs.map (kx_cv g))).length) Slot.unset).toArray) n (kx_ent n vs) := by
  have h0 := lv_entry (vs.map (kx_cv g)) (n := n) (by rw [kx_arg_len]; exact h)
  refine ⟨h0.1, h0.2.1, fun q hq => h0.2.2 q ?_⟩
  obtain ⟨i, w⟩ := q
  obtain ⟨v, hv, rfl⟩ := kx_l_mem.mp hq
  have hv' : (kx_arg vs)[i]? = some (some v) := by
    unfold kx_ent at hv
    by_cases hl : i < (kx_arg vs).length
    · rwa [List.getElem?_append_left hl] at hv
    · rw [List.getElem?_append_right (by omega), List.getElem?_replicate] at hv
      split at hv <;> simp at hv
  have := kx_arg_get g vs 0 i v hv'
  rwa [Nat.zero_add] at this
